section
-- ===== PART A: goes FIRST, ahead of the names: the tables' words, and 'selects' of the private methods out of them =====
/-- a private method of a class that the tables say can be made, by its rows of tables_1 -/
def lw_okq (q : MethodName × Nat) : Prop := (q.1.cls ≠ "java/lang/invoke/MethodHandle" ∧ q.1.cls ≠ "java/lang/invoke/VarHandle") ∧ Cond.instantiable q.1.cls q.2 ∈ tables_1 ∧ Cond.privateMethod q.1 ∈ tables_1 ∧ Cond.instanceMethod q.1 ∈ tables_1
theorem lw_p0 : lw_okq (⟨"DomeSlit", "renewed", "(LDomeSlit$Line;II)I"⟩, 17) := ⟨⟨by decide +kernel, by decide +kernel⟩, List.mem_of_getElem? (i := 16) (by decide +kernel), List.mem_of_getElem? (i := 235) (by decide +kernel), List.mem_of_getElem? (i := 236) (by decide +kernel)⟩
theorem lw_p1 : lw_okq (⟨"DomeSlit", "found", "(I)I"⟩, 17) := ⟨⟨by decide +kernel, by decide +kernel⟩, List.mem_of_getElem? (i := 16) (by decide +kernel), List.mem_of_getElem? (i := 243) (by decide +kernel), List.mem_of_getElem? (i := 244) (by decide +kernel)⟩
theorem lw_p2 : lw_okq (⟨"DomeSlit", "refusePlace", "(LDomeSlit$Line;I)I"⟩, 17) := ⟨⟨by decide +kernel, by decide +kernel⟩, List.mem_of_getElem? (i := 16) (by decide +kernel), List.mem_of_getElem? (i := 261) (by decide +kernel), List.mem_of_getElem? (i := 262) (by decide +kernel)⟩
theorem lw_p3 : lw_okq (⟨"DomeSlit", "refuseLine", "(LDomeSlit$Line;)I"⟩, 17) := ⟨⟨by decide +kernel, by decide +kernel⟩, List.mem_of_getElem? (i := 16) (by decide +kernel), List.mem_of_getElem? (i := 265) (by decide +kernel), List.mem_of_getElem? (i := 266) (by decide +kernel)⟩
theorem lw_p4 : lw_okq (⟨"DomeSlit$Reader", "skipBlanks", "(LDomeSlit$Line;)V"⟩, 6) := ⟨⟨by decide +kernel, by decide +kernel⟩, List.mem_of_getElem? (i := 26) (by decide +kernel), List.mem_of_getElem? (i := 342) (by decide +kernel), List.mem_of_getElem? (i := 343) (by decide +kernel)⟩
theorem lw_p5 : lw_okq (⟨"DomeSlit$Reader", "readDomeLetter", "(LDomeSlit$Line;)V"⟩, 6) := ⟨⟨by decide +kernel, by decide +kernel⟩, List.mem_of_getElem? (i := 26) (by decide +kernel), List.mem_of_getElem? (i := 348) (by decide +kernel), List.mem_of_getElem? (i := 349) (by decide +kernel)⟩
theorem lw_p6 : lw_okq (⟨"DomeSlit$Reader", "goOnIf", "(Z)V"⟩, 6) := ⟨⟨by decide +kernel, by decide +kernel⟩, List.mem_of_getElem? (i := 26) (by decide +kernel), List.mem_of_getElem? (i := 352) (by decide +kernel), List.mem_of_getElem? (i := 353) (by decide +kernel)⟩
theorem lw_p7 : lw_okq (⟨"DomeSlit$Reader", "figure", "(LDomeSlit$Line;II)I"⟩, 6) := ⟨⟨by decide +kernel, by decide +kernel⟩, List.mem_of_getElem? (i := 26) (by decide +kernel), List.mem_of_getElem? (i := 356) (by decide +kernel), List.mem_of_getElem? (i := 357) (by decide +kernel)⟩
theorem lw_p8 : lw_okq (⟨"DomeSlit$Reader", "placeFigures", "(LDomeSlit$Line;)I"⟩, 6) := ⟨⟨by decide +kernel, by decide +kernel⟩, List.mem_of_getElem? (i := 26) (by decide +kernel), List.mem_of_getElem? (i := 360) (by decide +kernel), List.mem_of_getElem? (i := 361) (by decide +kernel)⟩
theorem lw_p9 : lw_okq (⟨"DomeSlit$Reader", "readLight", "(LDomeSlit$Line;I)V"⟩, 6) := ⟨⟨by decide +kernel, by decide +kernel⟩, List.mem_of_getElem? (i := 26) (by decide +kernel), List.mem_of_getElem? (i := 364) (by decide +kernel), List.mem_of_getElem? (i := 365) (by decide +kernel)⟩
theorem lw_p10 : lw_okq (⟨"DomeSlit$Reader", "kindLetter", "(LDomeSlit$Line;)I"⟩, 6) := ⟨⟨by decide +kernel, by decide +kernel⟩, List.mem_of_getElem? (i := 26) (by decide +kernel), List.mem_of_getElem? (i := 368) (by decide +kernel), List.mem_of_getElem? (i := 369) (by decide +kernel)⟩
theorem lw_p11 : lw_okq (⟨"DomeSlit", "lightAt", "(I)LDomeSlit$Light;"⟩, 17) := ⟨⟨by decide +kernel, by decide +kernel⟩, List.mem_of_getElem? (i := 16) (by decide +kernel), List.mem_of_getElem? (i := 398) (by decide +kernel), List.mem_of_getElem? (i := 399) (by decide +kernel)⟩
theorem lw_p12 : lw_okq (⟨"DomeSlit", "factOf", "(LDomeSlit$Light;I)I"⟩, 17) := ⟨⟨by decide +kernel, by decide +kernel⟩, List.mem_of_getElem? (i := 16) (by decide +kernel), List.mem_of_getElem? (i := 402) (by decide +kernel), List.mem_of_getElem? (i := 403) (by decide +kernel)⟩
theorem lw_p13 : lw_okq (⟨"DomeSlit$Light", "movedBy", "(I)I"⟩, 4) := ⟨⟨by decide +kernel, by decide +kernel⟩, List.mem_of_getElem? (i := 53) (by decide +kernel), List.mem_of_getElem? (i := 418) (by decide +kernel), List.mem_of_getElem? (i := 419) (by decide +kernel)⟩
theorem lw_p14 : lw_okq (⟨"DomeSlit", "gainIn", "(LDomeSlit$Light;I)I"⟩, 17) := ⟨⟨by decide +kernel, by decide +kernel⟩, List.mem_of_getElem? (i := 16) (by decide +kernel), List.mem_of_getElem? (i := 444) (by decide +kernel), List.mem_of_getElem? (i := 445) (by decide +kernel)⟩
theorem lw_p15 : lw_okq (⟨"DomeSlit", "passMoment", "()I"⟩, 17) := ⟨⟨by decide +kernel, by decide +kernel⟩, List.mem_of_getElem? (i := 16) (by decide +kernel), List.mem_of_getElem? (i := 494) (by decide +kernel), List.mem_of_getElem? (i := 495) (by decide +kernel)⟩
def lw_privs_1 : List (MethodName × Nat) := [(⟨"DomeSlit", "renewed", "(LDomeSlit$Line;II)I"⟩, 17), (⟨"DomeSlit", "found", "(I)I"⟩, 17), (⟨"DomeSlit", "refusePlace", "(LDomeSlit$Line;I)I"⟩, 17), (⟨"DomeSlit", "refuseLine", "(LDomeSlit$Line;)I"⟩, 17), (⟨"DomeSlit$Reader", "skipBlanks", "(LDomeSlit$Line;)V"⟩, 6), (⟨"DomeSlit$Reader", "readDomeLetter", "(LDomeSlit$Line;)V"⟩, 6), (⟨"DomeSlit$Reader", "goOnIf", "(Z)V"⟩, 6), (⟨"DomeSlit$Reader", "figure", "(LDomeSlit$Line;II)I"⟩, 6), (⟨"DomeSlit$Reader", "placeFigures", "(LDomeSlit$Line;)I"⟩, 6), (⟨"DomeSlit$Reader", "readLight", "(LDomeSlit$Line;I)V"⟩, 6), (⟨"DomeSlit$Reader", "kindLetter", "(LDomeSlit$Line;)I"⟩, 6), (⟨"DomeSlit", "lightAt", "(I)LDomeSlit$Light;"⟩, 17), (⟨"DomeSlit", "factOf", "(LDomeSlit$Light;I)I"⟩, 17), (⟨"DomeSlit$Light", "movedBy", "(I)I"⟩, 4), (⟨"DomeSlit", "gainIn", "(LDomeSlit$Light;I)I"⟩, 17), (⟨"DomeSlit", "passMoment", "()I"⟩, 17)]
theorem lw_r1 : ∀ q ∈ lw_privs_1, lw_okq q := List.forall_mem_cons.mpr ⟨lw_p0, List.forall_mem_cons.mpr ⟨lw_p1, List.forall_mem_cons.mpr ⟨lw_p2, List.forall_mem_cons.mpr ⟨lw_p3, List.forall_mem_cons.mpr ⟨lw_p4, List.forall_mem_cons.mpr ⟨lw_p5, List.forall_mem_cons.mpr ⟨lw_p6, List.forall_mem_cons.mpr ⟨lw_p7, List.forall_mem_cons.mpr ⟨lw_p8, List.forall_mem_cons.mpr ⟨lw_p9, List.forall_mem_cons.mpr ⟨lw_p10, List.forall_mem_cons.mpr ⟨lw_p11, List.forall_mem_cons.mpr ⟨lw_p12, List.forall_mem_cons.mpr ⟨lw_p13, List.forall_mem_cons.mpr ⟨lw_p14, List.forall_mem_cons.mpr ⟨lw_p15, fun _ h => absurd h List.not_mem_nil⟩⟩⟩⟩⟩⟩⟩⟩⟩⟩⟩⟩⟩⟩⟩⟩
theorem lw_p16 : lw_okq (⟨"DomeSlit$Night", "note", "(I)V"⟩, 5) := ⟨⟨by decide +kernel, by decide +kernel⟩, List.mem_of_getElem? (i := 85) (by decide +kernel), List.mem_of_getElem? (i := 502) (by decide +kernel), List.mem_of_getElem? (i := 503) (by decide +kernel)⟩
theorem lw_p17 : lw_okq (⟨"DomeSlit", "overFor", "(LDomeSlit$Light;I)I"⟩, 17) := ⟨⟨by decide +kernel, by decide +kernel⟩, List.mem_of_getElem? (i := 16) (by decide +kernel), List.mem_of_getElem? (i := 578) (by decide +kernel), List.mem_of_getElem? (i := 579) (by decide +kernel)⟩
theorem lw_p18 : lw_okq (⟨"DomeSlit$Follower", "leastBehind", "(IIIZ)I"⟩, 4) := ⟨⟨by decide +kernel, by decide +kernel⟩, List.mem_of_getElem? (i := 118) (by decide +kernel), List.mem_of_getElem? (i := 613) (by decide +kernel), List.mem_of_getElem? (i := 614) (by decide +kernel)⟩
theorem lw_p19 : lw_okq (⟨"DomeSlit$Follower", "raiseMost", "(IIII)V"⟩, 4) := ⟨⟨by decide +kernel, by decide +kernel⟩, List.mem_of_getElem? (i := 118) (by decide +kernel), List.mem_of_getElem? (i := 645) (by decide +kernel), List.mem_of_getElem? (i := 646) (by decide +kernel)⟩
theorem lw_p20 : lw_okq (⟨"DomeSlit$Follower", "swapTables", "()V"⟩, 4) := ⟨⟨by decide +kernel, by decide +kernel⟩, List.mem_of_getElem? (i := 118) (by decide +kernel), List.mem_of_getElem? (i := 650) (by decide +kernel), List.mem_of_getElem? (i := 651) (by decide +kernel)⟩
theorem lw_p21 : lw_okq (⟨"DomeSlit", "refuseTurns", "(LDomeSlit$Line;)I"⟩, 17) := ⟨⟨by decide +kernel, by decide +kernel⟩, List.mem_of_getElem? (i := 16) (by decide +kernel), List.mem_of_getElem? (i := 658) (by decide +kernel), List.mem_of_getElem? (i := 659) (by decide +kernel)⟩
theorem lw_p22 : lw_okq (⟨"DomeSlit$Follower", "lowerOrders", "(IIII)V"⟩, 4) := ⟨⟨by decide +kernel, by decide +kernel⟩, List.mem_of_getElem? (i := 118) (by decide +kernel), List.mem_of_getElem? (i := 684) (by decide +kernel), List.mem_of_getElem? (i := 685) (by decide +kernel)⟩
theorem lw_p23 : lw_okq (⟨"DomeSlit", "guessed", "(III)I"⟩, 17) := ⟨⟨by decide +kernel, by decide +kernel⟩, List.mem_of_getElem? (i := 16) (by decide +kernel), List.mem_of_getElem? (i := 694) (by decide +kernel), List.mem_of_getElem? (i := 695) (by decide +kernel)⟩
theorem lw_p24 : lw_okq (⟨"DomeSlit", "refuseNotes", "(LDomeSlit$Line;)I"⟩, 17) := ⟨⟨by decide +kernel, by decide +kernel⟩, List.mem_of_getElem? (i := 16) (by decide +kernel), List.mem_of_getElem? (i := 698) (by decide +kernel), List.mem_of_getElem? (i := 699) (by decide +kernel)⟩
theorem lw_p25 : lw_okq (⟨"DomeSlit", "guessFits", "(LDomeSlit$Line;)Z"⟩, 17) := ⟨⟨by decide +kernel, by decide +kernel⟩, List.mem_of_getElem? (i := 16) (by decide +kernel), List.mem_of_getElem? (i := 708) (by decide +kernel), List.mem_of_getElem? (i := 709) (by decide +kernel)⟩
theorem lw_p26 : lw_okq (⟨"DomeSlit", "timesOver", "(LDomeSlit$Light;I)I"⟩, 17) := ⟨⟨by decide +kernel, by decide +kernel⟩, List.mem_of_getElem? (i := 16) (by decide +kernel), List.mem_of_getElem? (i := 728) (by decide +kernel), List.mem_of_getElem? (i := 729) (by decide +kernel)⟩
theorem lw_p27 : lw_okq (⟨"DomeSlit$Follower", "mostBehindClouds", "(III)I"⟩, 4) := ⟨⟨by decide +kernel, by decide +kernel⟩, List.mem_of_getElem? (i := 118) (by decide +kernel), List.mem_of_getElem? (i := 740) (by decide +kernel), List.mem_of_getElem? (i := 741) (by decide +kernel)⟩
theorem lw_p28 : lw_okq (⟨"DomeSlit", "bySleep", "(IIIZ)I"⟩, 17) := ⟨⟨by decide +kernel, by decide +kernel⟩, List.mem_of_getElem? (i := 16) (by decide +kernel), List.mem_of_getElem? (i := 748) (by decide +kernel), List.mem_of_getElem? (i := 749) (by decide +kernel)⟩
theorem lw_p29 : lw_okq (⟨"DomeSlit$Sleeper", "spread", "(II)V"⟩, 4) := ⟨⟨by decide +kernel, by decide +kernel⟩, List.mem_of_getElem? (i := 137) (by decide +kernel), List.mem_of_getElem? (i := 762) (by decide +kernel), List.mem_of_getElem? (i := 763) (by decide +kernel)⟩
theorem lw_p30 : lw_okq (⟨"DomeSlit$Sleeper", "gotAt", "(IZ)J"⟩, 4) := ⟨⟨by decide +kernel, by decide +kernel⟩, List.mem_of_getElem? (i := 137) (by decide +kernel), List.mem_of_getElem? (i := 767) (by decide +kernel), List.mem_of_getElem? (i := 768) (by decide +kernel)⟩
theorem lw_p31 : lw_okq (⟨"DomeSlit$Sleeper", "weightLeft", "()J"⟩, 4) := ⟨⟨by decide +kernel, by decide +kernel⟩, List.mem_of_getElem? (i := 137) (by decide +kernel), List.mem_of_getElem? (i := 772) (by decide +kernel), List.mem_of_getElem? (i := 773) (by decide +kernel)⟩
def lw_privs_2 : List (MethodName × Nat) := [(⟨"DomeSlit$Night", "note", "(I)V"⟩, 5), (⟨"DomeSlit", "overFor", "(LDomeSlit$Light;I)I"⟩, 17), (⟨"DomeSlit$Follower", "leastBehind", "(IIIZ)I"⟩, 4), (⟨"DomeSlit$Follower", "raiseMost", "(IIII)V"⟩, 4), (⟨"DomeSlit$Follower", "swapTables", "()V"⟩, 4), (⟨"DomeSlit", "refuseTurns", "(LDomeSlit$Line;)I"⟩, 17), (⟨"DomeSlit$Follower", "lowerOrders", "(IIII)V"⟩, 4), (⟨"DomeSlit", "guessed", "(III)I"⟩, 17), (⟨"DomeSlit", "refuseNotes", "(LDomeSlit$Line;)I"⟩, 17), (⟨"DomeSlit", "guessFits", "(LDomeSlit$Line;)Z"⟩, 17), (⟨"DomeSlit", "timesOver", "(LDomeSlit$Light;I)I"⟩, 17), (⟨"DomeSlit$Follower", "mostBehindClouds", "(III)I"⟩, 4), (⟨"DomeSlit", "bySleep", "(IIIZ)I"⟩, 17), (⟨"DomeSlit$Sleeper", "spread", "(II)V"⟩, 4), (⟨"DomeSlit$Sleeper", "gotAt", "(IZ)J"⟩, 4), (⟨"DomeSlit$Sleeper", "weightLeft", "()J"⟩, 4)]
theorem lw_r2 : ∀ q ∈ lw_privs_2, lw_okq q := List.forall_mem_cons.mpr ⟨lw_p16, List.forall_mem_cons.mpr ⟨lw_p17, List.forall_mem_cons.mpr ⟨lw_p18, List.forall_mem_cons.mpr ⟨lw_p19, List.forall_mem_cons.mpr ⟨lw_p20, List.forall_mem_cons.mpr ⟨lw_p21, List.forall_mem_cons.mpr ⟨lw_p22, List.forall_mem_cons.mpr ⟨lw_p23, List.forall_mem_cons.mpr ⟨lw_p24, List.forall_mem_cons.mpr ⟨lw_p25, List.forall_mem_cons.mpr ⟨lw_p26, List.forall_mem_cons.mpr ⟨lw_p27, List.forall_mem_cons.mpr ⟨lw_p28, List.forall_mem_cons.mpr ⟨lw_p29, List.forall_mem_cons.mpr ⟨lw_p30, List.forall_mem_cons.mpr ⟨lw_p31, fun _ h => absurd h List.not_mem_nil⟩⟩⟩⟩⟩⟩⟩⟩⟩⟩⟩⟩⟩⟩⟩⟩
theorem lw_p32 : lw_okq (⟨"DomeSlit", "tellChances", "(JJ)V"⟩, 17) := ⟨⟨by decide +kernel, by decide +kernel⟩, List.mem_of_getElem? (i := 16) (by decide +kernel), List.mem_of_getElem? (i := 780) (by decide +kernel), List.mem_of_getElem? (i := 781) (by decide +kernel)⟩
theorem lw_p33 : lw_okq (⟨"DomeSlit", "counted", "(I)I"⟩, 17) := ⟨⟨by decide +kernel, by decide +kernel⟩, List.mem_of_getElem? (i := 16) (by decide +kernel), List.mem_of_getElem? (i := 816) (by decide +kernel), List.mem_of_getElem? (i := 817) (by decide +kernel)⟩
theorem lw_p34 : lw_okq (⟨"DomeSlit", "lightsOf", "(I)I"⟩, 17) := ⟨⟨by decide +kernel, by decide +kernel⟩, List.mem_of_getElem? (i := 16) (by decide +kernel), List.mem_of_getElem? (i := 824) (by decide +kernel), List.mem_of_getElem? (i := 825) (by decide +kernel)⟩
theorem lw_p35 : lw_okq (⟨"DomeSlit", "keptThere", "()I"⟩, 17) := ⟨⟨by decide +kernel, by decide +kernel⟩, List.mem_of_getElem? (i := 16) (by decide +kernel), List.mem_of_getElem? (i := 831) (by decide +kernel), List.mem_of_getElem? (i := 832) (by decide +kernel)⟩
theorem lw_p36 : lw_okq (⟨"DomeSlitModel", "find", "(I)I"⟩, 33) := ⟨⟨by decide +kernel, by decide +kernel⟩, List.mem_of_getElem? (i := 858) (by decide +kernel), List.mem_of_getElem? (i := 975) (by decide +kernel), List.mem_of_getElem? (i := 976) (by decide +kernel)⟩
theorem lw_p37 : lw_okq (⟨"DomeSlitModel", "makeRow", "(II)V"⟩, 33) := ⟨⟨by decide +kernel, by decide +kernel⟩, List.mem_of_getElem? (i := 858) (by decide +kernel), List.mem_of_getElem? (i := 979) (by decide +kernel), List.mem_of_getElem? (i := 980) (by decide +kernel)⟩
theorem lw_p38 : lw_okq (⟨"DomeSlitModel", "refused", "(II)I"⟩, 33) := ⟨⟨by decide +kernel, by decide +kernel⟩, List.mem_of_getElem? (i := 858) (by decide +kernel), List.mem_of_getElem? (i := 987) (by decide +kernel), List.mem_of_getElem? (i := 988) (by decide +kernel)⟩
theorem lw_p39 : lw_okq (⟨"DomeSlitModel", "tell", "(I)I"⟩, 33) := ⟨⟨by decide +kernel, by decide +kernel⟩, List.mem_of_getElem? (i := 858) (by decide +kernel), List.mem_of_getElem? (i := 991) (by decide +kernel), List.mem_of_getElem? (i := 992) (by decide +kernel)⟩
theorem lw_p40 : lw_okq (⟨"DomeSlitModel", "isSpan", "(III)Z"⟩, 33) := ⟨⟨by decide +kernel, by decide +kernel⟩, List.mem_of_getElem? (i := 858) (by decide +kernel), List.mem_of_getElem? (i := 1007) (by decide +kernel), List.mem_of_getElem? (i := 1008) (by decide +kernel)⟩
theorem lw_p41 : lw_okq (⟨"DomeSlitModel", "faultOf", "(I)I"⟩, 33) := ⟨⟨by decide +kernel, by decide +kernel⟩, List.mem_of_getElem? (i := 858) (by decide +kernel), List.mem_of_getElem? (i := 1031) (by decide +kernel), List.mem_of_getElem? (i := 1032) (by decide +kernel)⟩
theorem lw_p42 : lw_okq (⟨"DomeSlitModel", "readsSlit", "()Z"⟩, 33) := ⟨⟨by decide +kernel, by decide +kernel⟩, List.mem_of_getElem? (i := 858) (by decide +kernel), List.mem_of_getElem? (i := 1035) (by decide +kernel), List.mem_of_getElem? (i := 1036) (by decide +kernel)⟩
theorem lw_p43 : lw_okq (⟨"DomeSlitModel", "skip", "()V"⟩, 33) := ⟨⟨by decide +kernel, by decide +kernel⟩, List.mem_of_getElem? (i := 858) (by decide +kernel), List.mem_of_getElem? (i := 1039) (by decide +kernel), List.mem_of_getElem? (i := 1040) (by decide +kernel)⟩
theorem lw_p44 : lw_okq (⟨"DomeSlitModel", "here", "()I"⟩, 33) := ⟨⟨by decide +kernel, by decide +kernel⟩, List.mem_of_getElem? (i := 858) (by decide +kernel), List.mem_of_getElem? (i := 1043) (by decide +kernel), List.mem_of_getElem? (i := 1044) (by decide +kernel)⟩
theorem lw_p45 : lw_okq (⟨"DomeSlitModel", "figure", "(II)I"⟩, 33) := ⟨⟨by decide +kernel, by decide +kernel⟩, List.mem_of_getElem? (i := 858) (by decide +kernel), List.mem_of_getElem? (i := 1047) (by decide +kernel), List.mem_of_getElem? (i := 1048) (by decide +kernel)⟩
theorem lw_p46 : lw_okq (⟨"DomeSlitModel", "figures", "()I"⟩, 33) := ⟨⟨by decide +kernel, by decide +kernel⟩, List.mem_of_getElem? (i := 858) (by decide +kernel), List.mem_of_getElem? (i := 1051) (by decide +kernel), List.mem_of_getElem? (i := 1052) (by decide +kernel)⟩
theorem lw_p47 : lw_okq (⟨"DomeSlitModel", "readsLight", "()Z"⟩, 33) := ⟨⟨by decide +kernel, by decide +kernel⟩, List.mem_of_getElem? (i := 858) (by decide +kernel), List.mem_of_getElem? (i := 1055) (by decide +kernel), List.mem_of_getElem? (i := 1056) (by decide +kernel)⟩
def lw_privs_3 : List (MethodName × Nat) := [(⟨"DomeSlit", "tellChances", "(JJ)V"⟩, 17), (⟨"DomeSlit", "counted", "(I)I"⟩, 17), (⟨"DomeSlit", "lightsOf", "(I)I"⟩, 17), (⟨"DomeSlit", "keptThere", "()I"⟩, 17), (⟨"DomeSlitModel", "find", "(I)I"⟩, 33), (⟨"DomeSlitModel", "makeRow", "(II)V"⟩, 33), (⟨"DomeSlitModel", "refused", "(II)I"⟩, 33), (⟨"DomeSlitModel", "tell", "(I)I"⟩, 33), (⟨"DomeSlitModel", "isSpan", "(III)Z"⟩, 33), (⟨"DomeSlitModel", "faultOf", "(I)I"⟩, 33), (⟨"DomeSlitModel", "readsSlit", "()Z"⟩, 33), (⟨"DomeSlitModel", "skip", "()V"⟩, 33), (⟨"DomeSlitModel", "here", "()I"⟩, 33), (⟨"DomeSlitModel", "figure", "(II)I"⟩, 33), (⟨"DomeSlitModel", "figures", "()I"⟩, 33), (⟨"DomeSlitModel", "readsLight", "()Z"⟩, 33)]
theorem lw_r3 : ∀ q ∈ lw_privs_3, lw_okq q := List.forall_mem_cons.mpr ⟨lw_p32, List.forall_mem_cons.mpr ⟨lw_p33, List.forall_mem_cons.mpr ⟨lw_p34, List.forall_mem_cons.mpr ⟨lw_p35, List.forall_mem_cons.mpr ⟨lw_p36, List.forall_mem_cons.mpr ⟨lw_p37, List.forall_mem_cons.mpr ⟨lw_p38, List.forall_mem_cons.mpr ⟨lw_p39, List.forall_mem_cons.mpr ⟨lw_p40, List.forall_mem_cons.mpr ⟨lw_p41, List.forall_mem_cons.mpr ⟨lw_p42, List.forall_mem_cons.mpr ⟨lw_p43, List.forall_mem_cons.mpr ⟨lw_p44, List.forall_mem_cons.mpr ⟨lw_p45, List.forall_mem_cons.mpr ⟨lw_p46, List.forall_mem_cons.mpr ⟨lw_p47, fun _ h => absurd h List.not_mem_nil⟩⟩⟩⟩⟩⟩⟩⟩⟩⟩⟩⟩⟩⟩⟩⟩
theorem lw_p48 : lw_okq (⟨"DomeSlitModel", "isLight", "(I)Z"⟩, 33) := ⟨⟨by decide +kernel, by decide +kernel⟩, List.mem_of_getElem? (i := 858) (by decide +kernel), List.mem_of_getElem? (i := 1070) (by decide +kernel), List.mem_of_getElem? (i := 1071) (by decide +kernel)⟩
theorem lw_p49 : lw_okq (⟨"DomeSlitModel", "toldOf", "(II)I"⟩, 33) := ⟨⟨by decide +kernel, by decide +kernel⟩, List.mem_of_getElem? (i := 858) (by decide +kernel), List.mem_of_getElem? (i := 1074) (by decide +kernel), List.mem_of_getElem? (i := 1075) (by decide +kernel)⟩
theorem lw_p50 : lw_okq (⟨"DomeSlitModel", "now", "(I)I"⟩, 33) := ⟨⟨by decide +kernel, by decide +kernel⟩, List.mem_of_getElem? (i := 858) (by decide +kernel), List.mem_of_getElem? (i := 1078) (by decide +kernel), List.mem_of_getElem? (i := 1079) (by decide +kernel)⟩
theorem lw_p51 : lw_okq (⟨"DomeSlitModel", "placeAt", "(II)I"⟩, 33) := ⟨⟨by decide +kernel, by decide +kernel⟩, List.mem_of_getElem? (i := 858) (by decide +kernel), List.mem_of_getElem? (i := 1082) (by decide +kernel), List.mem_of_getElem? (i := 1083) (by decide +kernel)⟩
theorem lw_p52 : lw_okq (⟨"DomeSlitModel", "brightAt", "(II)I"⟩, 33) := ⟨⟨by decide +kernel, by decide +kernel⟩, List.mem_of_getElem? (i := 858) (by decide +kernel), List.mem_of_getElem? (i := 1092) (by decide +kernel), List.mem_of_getElem? (i := 1093) (by decide +kernel)⟩
theorem lw_p53 : lw_okq (⟨"DomeSlitModel", "got", "(III)I"⟩, 33) := ⟨⟨by decide +kernel, by decide +kernel⟩, List.mem_of_getElem? (i := 858) (by decide +kernel), List.mem_of_getElem? (i := 1099) (by decide +kernel), List.mem_of_getElem? (i := 1100) (by decide +kernel)⟩
theorem lw_p54 : lw_okq (⟨"DomeSlitModel", "times", "(II)I"⟩, 33) := ⟨⟨by decide +kernel, by decide +kernel⟩, List.mem_of_getElem? (i := 858) (by decide +kernel), List.mem_of_getElem? (i := 1103) (by decide +kernel), List.mem_of_getElem? (i := 1104) (by decide +kernel)⟩
theorem lw_p55 : lw_okq (⟨"DomeSlitModel", "isOf", "(II)Z"⟩, 33) := ⟨⟨by decide +kernel, by decide +kernel⟩, List.mem_of_getElem? (i := 858) (by decide +kernel), List.mem_of_getElem? (i := 1111) (by decide +kernel), List.mem_of_getElem? (i := 1112) (by decide +kernel)⟩
theorem lw_p56 : lw_okq (⟨"DomeSlitModel", "moves", "(I)I"⟩, 33) := ⟨⟨by decide +kernel, by decide +kernel⟩, List.mem_of_getElem? (i := 858) (by decide +kernel), List.mem_of_getElem? (i := 1115) (by decide +kernel), List.mem_of_getElem? (i := 1116) (by decide +kernel)⟩
theorem lw_p57 : lw_okq (⟨"DomeSlitModel", "back", "(I)I"⟩, 33) := ⟨⟨by decide +kernel, by decide +kernel⟩, List.mem_of_getElem? (i := 858) (by decide +kernel), List.mem_of_getElem? (i := 1119) (by decide +kernel), List.mem_of_getElem? (i := 1120) (by decide +kernel)⟩
theorem lw_p58 : lw_okq (⟨"DomeSlitModel", "fourBrights", "(I)I"⟩, 33) := ⟨⟨by decide +kernel, by decide +kernel⟩, List.mem_of_getElem? (i := 858) (by decide +kernel), List.mem_of_getElem? (i := 1123) (by decide +kernel), List.mem_of_getElem? (i := 1124) (by decide +kernel)⟩
theorem lw_p59 : lw_okq (⟨"DomeSlitModel", "offBest", "(I)I"⟩, 33) := ⟨⟨by decide +kernel, by decide +kernel⟩, List.mem_of_getElem? (i := 858) (by decide +kernel), List.mem_of_getElem? (i := 1127) (by decide +kernel), List.mem_of_getElem? (i := 1128) (by decide +kernel)⟩
theorem lw_p60 : lw_okq (⟨"DomeSlitModel", "doMoment", "()I"⟩, 33) := ⟨⟨by decide +kernel, by decide +kernel⟩, List.mem_of_getElem? (i := 858) (by decide +kernel), List.mem_of_getElem? (i := 1135) (by decide +kernel), List.mem_of_getElem? (i := 1136) (by decide +kernel)⟩
theorem lw_p61 : lw_okq (⟨"DomeSlitModel", "gotNow", "()I"⟩, 33) := ⟨⟨by decide +kernel, by decide +kernel⟩, List.mem_of_getElem? (i := 858) (by decide +kernel), List.mem_of_getElem? (i := 1139) (by decide +kernel), List.mem_of_getElem? (i := 1140) (by decide +kernel)⟩
theorem lw_p62 : lw_okq (⟨"DomeSlitModel", "keepPast", "()V"⟩, 33) := ⟨⟨by decide +kernel, by decide +kernel⟩, List.mem_of_getElem? (i := 858) (by decide +kernel), List.mem_of_getElem? (i := 1143) (by decide +kernel), List.mem_of_getElem? (i := 1144) (by decide +kernel)⟩
theorem lw_p63 : lw_okq (⟨"DomeSlitModel", "doTurn", "(I)I"⟩, 33) := ⟨⟨by decide +kernel, by decide +kernel⟩, List.mem_of_getElem? (i := 858) (by decide +kernel), List.mem_of_getElem? (i := 1153) (by decide +kernel), List.mem_of_getElem? (i := 1154) (by decide +kernel)⟩
def lw_privs_4 : List (MethodName × Nat) := [(⟨"DomeSlitModel", "isLight", "(I)Z"⟩, 33), (⟨"DomeSlitModel", "toldOf", "(II)I"⟩, 33), (⟨"DomeSlitModel", "now", "(I)I"⟩, 33), (⟨"DomeSlitModel", "placeAt", "(II)I"⟩, 33), (⟨"DomeSlitModel", "brightAt", "(II)I"⟩, 33), (⟨"DomeSlitModel", "got", "(III)I"⟩, 33), (⟨"DomeSlitModel", "times", "(II)I"⟩, 33), (⟨"DomeSlitModel", "isOf", "(II)Z"⟩, 33), (⟨"DomeSlitModel", "moves", "(I)I"⟩, 33), (⟨"DomeSlitModel", "back", "(I)I"⟩, 33), (⟨"DomeSlitModel", "fourBrights", "(I)I"⟩, 33), (⟨"DomeSlitModel", "offBest", "(I)I"⟩, 33), (⟨"DomeSlitModel", "doMoment", "()I"⟩, 33), (⟨"DomeSlitModel", "gotNow", "()I"⟩, 33), (⟨"DomeSlitModel", "keepPast", "()V"⟩, 33), (⟨"DomeSlitModel", "doTurn", "(I)I"⟩, 33)]
theorem lw_r4 : ∀ q ∈ lw_privs_4, lw_okq q := List.forall_mem_cons.mpr ⟨lw_p48, List.forall_mem_cons.mpr ⟨lw_p49, List.forall_mem_cons.mpr ⟨lw_p50, List.forall_mem_cons.mpr ⟨lw_p51, List.forall_mem_cons.mpr ⟨lw_p52, List.forall_mem_cons.mpr ⟨lw_p53, List.forall_mem_cons.mpr ⟨lw_p54, List.forall_mem_cons.mpr ⟨lw_p55, List.forall_mem_cons.mpr ⟨lw_p56, List.forall_mem_cons.mpr ⟨lw_p57, List.forall_mem_cons.mpr ⟨lw_p58, List.forall_mem_cons.mpr ⟨lw_p59, List.forall_mem_cons.mpr ⟨lw_p60, List.forall_mem_cons.mpr ⟨lw_p61, List.forall_mem_cons.mpr ⟨lw_p62, List.forall_mem_cons.mpr ⟨lw_p63, fun _ h => absurd h List.not_mem_nil⟩⟩⟩⟩⟩⟩⟩⟩⟩⟩⟩⟩⟩⟩⟩⟩
theorem lw_p64 : lw_okq (⟨"DomeSlitModel", "effortFrom", "(II)I"⟩, 33) := ⟨⟨by decide +kernel, by decide +kernel⟩, List.mem_of_getElem? (i := 858) (by decide +kernel), List.mem_of_getElem? (i := 1157) (by decide +kernel), List.mem_of_getElem? (i := 1158) (by decide +kernel)⟩
theorem lw_p65 : lw_okq (⟨"DomeSlitModel", "copyDome", "(II)V"⟩, 33) := ⟨⟨by decide +kernel, by decide +kernel⟩, List.mem_of_getElem? (i := 858) (by decide +kernel), List.mem_of_getElem? (i := 1170) (by decide +kernel), List.mem_of_getElem? (i := 1171) (by decide +kernel)⟩
theorem lw_p66 : lw_okq (⟨"DomeSlitModel", "over", "(II)I"⟩, 33) := ⟨⟨by decide +kernel, by decide +kernel⟩, List.mem_of_getElem? (i := 858) (by decide +kernel), List.mem_of_getElem? (i := 1202) (by decide +kernel), List.mem_of_getElem? (i := 1203) (by decide +kernel)⟩
theorem lw_p67 : lw_okq (⟨"DomeSlitModel", "layLeast", "(IIZ)V"⟩, 33) := ⟨⟨by decide +kernel, by decide +kernel⟩, List.mem_of_getElem? (i := 858) (by decide +kernel), List.mem_of_getElem? (i := 1215) (by decide +kernel), List.mem_of_getElem? (i := 1216) (by decide +kernel)⟩
theorem lw_p68 : lw_okq (⟨"DomeSlitModel", "layEfforts", "()V"⟩, 33) := ⟨⟨by decide +kernel, by decide +kernel⟩, List.mem_of_getElem? (i := 858) (by decide +kernel), List.mem_of_getElem? (i := 1219) (by decide +kernel), List.mem_of_getElem? (i := 1220) (by decide +kernel)⟩
theorem lw_p69 : lw_okq (⟨"DomeSlitModel", "onBy", "(IIIIZ)I"⟩, 33) := ⟨⟨by decide +kernel, by decide +kernel⟩, List.mem_of_getElem? (i := 858) (by decide +kernel), List.mem_of_getElem? (i := 1224) (by decide +kernel), List.mem_of_getElem? (i := 1225) (by decide +kernel)⟩
theorem lw_p70 : lw_okq (⟨"DomeSlitModel", "costOf", "(IIZ)I"⟩, 33) := ⟨⟨by decide +kernel, by decide +kernel⟩, List.mem_of_getElem? (i := 858) (by decide +kernel), List.mem_of_getElem? (i := 1228) (by decide +kernel), List.mem_of_getElem? (i := 1229) (by decide +kernel)⟩
theorem lw_p71 : lw_okq (⟨"DomeSlitModel", "noTurns", "(I)I"⟩, 33) := ⟨⟨by decide +kernel, by decide +kernel⟩, List.mem_of_getElem? (i := 858) (by decide +kernel), List.mem_of_getElem? (i := 1245) (by decide +kernel), List.mem_of_getElem? (i := 1246) (by decide +kernel)⟩
theorem lw_p72 : lw_okq (⟨"DomeSlitModel", "areAll", "(III)Z"⟩, 33) := ⟨⟨by decide +kernel, by decide +kernel⟩, List.mem_of_getElem? (i := 858) (by decide +kernel), List.mem_of_getElem? (i := 1249) (by decide +kernel), List.mem_of_getElem? (i := 1250) (by decide +kernel)⟩
theorem lw_p73 : lw_okq (⟨"DomeSlitModel", "orderEffort", "()I"⟩, 33) := ⟨⟨by decide +kernel, by decide +kernel⟩, List.mem_of_getElem? (i := 858) (by decide +kernel), List.mem_of_getElem? (i := 1257) (by decide +kernel), List.mem_of_getElem? (i := 1258) (by decide +kernel)⟩
theorem lw_p74 : lw_okq (⟨"DomeSlitModel", "nextOrder", "(I)Z"⟩, 33) := ⟨⟨by decide +kernel, by decide +kernel⟩, List.mem_of_getElem? (i := 858) (by decide +kernel), List.mem_of_getElem? (i := 1261) (by decide +kernel), List.mem_of_getElem? (i := 1262) (by decide +kernel)⟩
theorem lw_p75 : lw_okq (⟨"DomeSlitModel", "noNotes", "(I)I"⟩, 33) := ⟨⟨by decide +kernel, by decide +kernel⟩, List.mem_of_getElem? (i := 858) (by decide +kernel), List.mem_of_getElem? (i := 1269) (by decide +kernel), List.mem_of_getElem? (i := 1270) (by decide +kernel)⟩
theorem lw_p76 : lw_okq (⟨"DomeSlitModel", "isSo", "(IIIII)Z"⟩, 33) := ⟨⟨by decide +kernel, by decide +kernel⟩, List.mem_of_getElem? (i := 858) (by decide +kernel), List.mem_of_getElem? (i := 1274) (by decide +kernel), List.mem_of_getElem? (i := 1275) (by decide +kernel)⟩
theorem lw_p77 : lw_okq (⟨"DomeSlitModel", "worseOf", "(IIII)I"⟩, 33) := ⟨⟨by decide +kernel, by decide +kernel⟩, List.mem_of_getElem? (i := 858) (by decide +kernel), List.mem_of_getElem? (i := 1295) (by decide +kernel), List.mem_of_getElem? (i := 1296) (by decide +kernel)⟩
theorem lw_p78 : lw_okq (⟨"DomeSlitModel", "tellAsleep", "(IIIZ)I"⟩, 33) := ⟨⟨by decide +kernel, by decide +kernel⟩, List.mem_of_getElem? (i := 858) (by decide +kernel), List.mem_of_getElem? (i := 1304) (by decide +kernel), List.mem_of_getElem? (i := 1305) (by decide +kernel)⟩
theorem lw_p79 : lw_okq (⟨"DomeSlitModel", "waysOf", "(III)J"⟩, 33) := ⟨⟨by decide +kernel, by decide +kernel⟩, List.mem_of_getElem? (i := 858) (by decide +kernel), List.mem_of_getElem? (i := 1308) (by decide +kernel), List.mem_of_getElem? (i := 1309) (by decide +kernel)⟩
def lw_privs_5 : List (MethodName × Nat) := [(⟨"DomeSlitModel", "effortFrom", "(II)I"⟩, 33), (⟨"DomeSlitModel", "copyDome", "(II)V"⟩, 33), (⟨"DomeSlitModel", "over", "(II)I"⟩, 33), (⟨"DomeSlitModel", "layLeast", "(IIZ)V"⟩, 33), (⟨"DomeSlitModel", "layEfforts", "()V"⟩, 33), (⟨"DomeSlitModel", "onBy", "(IIIIZ)I"⟩, 33), (⟨"DomeSlitModel", "costOf", "(IIZ)I"⟩, 33), (⟨"DomeSlitModel", "noTurns", "(I)I"⟩, 33), (⟨"DomeSlitModel", "areAll", "(III)Z"⟩, 33), (⟨"DomeSlitModel", "orderEffort", "()I"⟩, 33), (⟨"DomeSlitModel", "nextOrder", "(I)Z"⟩, 33), (⟨"DomeSlitModel", "noNotes", "(I)I"⟩, 33), (⟨"DomeSlitModel", "isSo", "(IIIII)Z"⟩, 33), (⟨"DomeSlitModel", "worseOf", "(IIII)I"⟩, 33), (⟨"DomeSlitModel", "tellAsleep", "(IIIZ)I"⟩, 33), (⟨"DomeSlitModel", "waysOf", "(III)J"⟩, 33)]
theorem lw_r5 : ∀ q ∈ lw_privs_5, lw_okq q := List.forall_mem_cons.mpr ⟨lw_p64, List.forall_mem_cons.mpr ⟨lw_p65, List.forall_mem_cons.mpr ⟨lw_p66, List.forall_mem_cons.mpr ⟨lw_p67, List.forall_mem_cons.mpr ⟨lw_p68, List.forall_mem_cons.mpr ⟨lw_p69, List.forall_mem_cons.mpr ⟨lw_p70, List.forall_mem_cons.mpr ⟨lw_p71, List.forall_mem_cons.mpr ⟨lw_p72, List.forall_mem_cons.mpr ⟨lw_p73, List.forall_mem_cons.mpr ⟨lw_p74, List.forall_mem_cons.mpr ⟨lw_p75, List.forall_mem_cons.mpr ⟨lw_p76, List.forall_mem_cons.mpr ⟨lw_p77, List.forall_mem_cons.mpr ⟨lw_p78, List.forall_mem_cons.mpr ⟨lw_p79, fun _ h => absurd h List.not_mem_nil⟩⟩⟩⟩⟩⟩⟩⟩⟩⟩⟩⟩⟩⟩⟩⟩
theorem lw_p80 : lw_okq (⟨"DomeSlitModel", "layAsleep", "(III)V"⟩, 33) := ⟨⟨by decide +kernel, by decide +kernel⟩, List.mem_of_getElem? (i := 858) (by decide +kernel), List.mem_of_getElem? (i := 1315) (by decide +kernel), List.mem_of_getElem? (i := 1316) (by decide +kernel)⟩
theorem lw_p81 : lw_okq (⟨"DomeSlitModel", "tellParts", "(JJ)I"⟩, 33) := ⟨⟨by decide +kernel, by decide +kernel⟩, List.mem_of_getElem? (i := 858) (by decide +kernel), List.mem_of_getElem? (i := 1319) (by decide +kernel), List.mem_of_getElem? (i := 1320) (by decide +kernel)⟩
theorem lw_p82 : lw_okq (⟨"DomeSlitModel", "countOf", "(I)I"⟩, 33) := ⟨⟨by decide +kernel, by decide +kernel⟩, List.mem_of_getElem? (i := 858) (by decide +kernel), List.mem_of_getElem? (i := 1353) (by decide +kernel), List.mem_of_getElem? (i := 1354) (by decide +kernel)⟩
theorem lw_p83 : lw_okq (⟨"DomeSlitModel", "kindMany", "(I)I"⟩, 33) := ⟨⟨by decide +kernel, by decide +kernel⟩, List.mem_of_getElem? (i := 858) (by decide +kernel), List.mem_of_getElem? (i := 1357) (by decide +kernel), List.mem_of_getElem? (i := 1358) (by decide +kernel)⟩
theorem lw_p84 : lw_okq (⟨"DomeSlitModel", "thereOf", "(I)I"⟩, 33) := ⟨⟨by decide +kernel, by decide +kernel⟩, List.mem_of_getElem? (i := 858) (by decide +kernel), List.mem_of_getElem? (i := 1361) (by decide +kernel), List.mem_of_getElem? (i := 1362) (by decide +kernel)⟩
def lw_privs_6 : List (MethodName × Nat) := [(⟨"DomeSlitModel", "layAsleep", "(III)V"⟩, 33), (⟨"DomeSlitModel", "tellParts", "(JJ)I"⟩, 33), (⟨"DomeSlitModel", "countOf", "(I)I"⟩, 33), (⟨"DomeSlitModel", "kindMany", "(I)I"⟩, 33), (⟨"DomeSlitModel", "thereOf", "(I)I"⟩, 33)]
theorem lw_r6 : ∀ q ∈ lw_privs_6, lw_okq q := List.forall_mem_cons.mpr ⟨lw_p80, List.forall_mem_cons.mpr ⟨lw_p81, List.forall_mem_cons.mpr ⟨lw_p82, List.forall_mem_cons.mpr ⟨lw_p83, List.forall_mem_cons.mpr ⟨lw_p84, fun _ h => absurd h List.not_mem_nil⟩⟩⟩⟩⟩
def lw_privs : List (MethodName × Nat) := lw_privs_1 ++ (lw_privs_2 ++ (lw_privs_3 ++ (lw_privs_4 ++ (lw_privs_5 ++ (lw_privs_6)))))
def lw_tbl : List Cond := k2_sels lw_privs ++ tables_1
theorem lw_privs_ok : ∀ q ∈ lw_privs, lw_okq q := by
  show ∀ q ∈ lw_privs_1 ++ (lw_privs_2 ++ (lw_privs_3 ++ (lw_privs_4 ++ (lw_privs_5 ++ (lw_privs_6))))), lw_okq q
  exact List.forall_mem_append.mpr ⟨lw_r1, List.forall_mem_append.mpr ⟨lw_r2, List.forall_mem_append.mpr ⟨lw_r3, List.forall_mem_append.mpr ⟨lw_r4, List.forall_mem_append.mpr ⟨lw_r5, lw_r6⟩⟩⟩⟩⟩
end
section
def RX0 : String := "DomeSlit$Follower"
def TX0 : u_T := fun k => match k with
  | 0 => ("DomeSlit$Follower", "slit", "LDomeSlit$Slit;", true)
  | 1 => ("DomeSlit$Follower", "view", "LDomeSlit$View;", true)
  | 2 => ("DomeSlit$Follower", "table", "[I", false)
  | _ => ("DomeSlit$Follower", "later", "[I", false)
def tyX0 : Nat → FieldType := fun k => match k with
  | 0 => .object "DomeSlit$Slit"
  | 1 => .object "DomeSlit$View"
  | 2 => .array .int
  | _ => .array .int
theorem nmX0 : ∀ a, a < 4 → ∀ b, b < 4 → a ≠ b → (TX0 a).2.1 ≠ (TX0 b).2.1 := by decide +kernel
theorem tyX0_ok : ∀ k, k < 4 → parseFieldDescriptor (TX0 k).2.2.1 = some (tyX0 k) := by decide +kernel
abbrev cX0_init : ByteArray := prog_2_method_1_code
def yX0_init : MethodName := ⟨RX0, "<init>", "(LDomeSlit$Slit;LDomeSlit$View;)V"⟩
abbrev cX0_least : ByteArray := prog_2_method_2_code
def yX0_least : MethodName := ⟨RX0, "least", "(IIZ)I"⟩
abbrev cX0_writeTurns : ByteArray := prog_2_method_3_code
def yX0_writeTurns : MethodName := ⟨RX0, "writeTurns", "(IILDomeSlit$Line;)V"⟩
abbrev cX0_leastBehind : ByteArray := prog_2_method_4_code
def yX0_leastBehind : MethodName := ⟨RX0, "leastBehind", "(IIIZ)I"⟩
abbrev cX0_mostWithin : ByteArray := prog_2_method_5_code
def yX0_mostWithin : MethodName := ⟨RX0, "mostWithin", "(III)I"⟩
abbrev cX0_raiseMost : ByteArray := prog_2_method_6_code
def yX0_raiseMost : MethodName := ⟨RX0, "raiseMost", "(IIII)V"⟩
abbrev cX0_mostByCloud : ByteArray := prog_2_method_7_code
def yX0_mostByCloud : MethodName := ⟨RX0, "mostByCloud", "(II)I"⟩
abbrev cX0_mostBehindClouds : ByteArray := prog_2_method_8_code
def yX0_mostBehindClouds : MethodName := ⟨RX0, "mostBehindClouds", "(III)I"⟩
abbrev cX0_leastOrder : ByteArray := prog_2_method_9_code
def yX0_leastOrder : MethodName := ⟨RX0, "leastOrder", "([LDomeSlit$Light;ILDomeSlit$Night;LDomeSlit$Line;)I"⟩
abbrev cX0_lowerOrders : ByteArray := prog_2_method_10_code
def yX0_lowerOrders : MethodName := ⟨RX0, "lowerOrders", "(IIII)V"⟩
abbrev cX0_swapTables : ByteArray := prog_2_method_11_code
def yX0_swapTables : MethodName := ⟨RX0, "swapTables", "()V"⟩
def RX1 : String := "DomeSlit$Light"
def TX1 : u_T := fun k => match k with
  | 0 => ("DomeSlit$Light", "kind", "I", false)
  | 1 => ("DomeSlit$Light", "start", "I", false)
  | 2 => ("DomeSlit$Light", "speed", "I", false)
  | _ => ("DomeSlit$Light", "bright", "I", false)
def tyX1 : Nat → FieldType := fun k => match k with
  | 0 => .int
  | 1 => .int
  | 2 => .int
  | _ => .int
theorem nmX1 : ∀ a, a < 4 → ∀ b, b < 4 → a ≠ b → (TX1 a).2.1 ≠ (TX1 b).2.1 := by decide +kernel
theorem tyX1_ok : ∀ k, k < 4 → parseFieldDescriptor (TX1 k).2.2.1 = some (tyX1 k) := by decide +kernel
abbrev cX1_init : ByteArray := prog_3_method_1_code
def yX1_init : MethodName := ⟨RX1, "<init>", "()V"⟩
abbrev cX1_become : ByteArray := prog_3_method_2_code
def yX1_become : MethodName := ⟨RX1, "become", "(IIII)V"⟩
abbrev cX1_standAt : ByteArray := prog_3_method_3_code
def yX1_standAt : MethodName := ⟨RX1, "standAt", "(II)V"⟩
abbrev cX1_kind : ByteArray := prog_3_method_4_code
def yX1_kind : MethodName := ⟨RX1, "kind", "()I"⟩
abbrev cX1_speed : ByteArray := prog_3_method_5_code
def yX1_speed : MethodName := ⟨RX1, "speed", "()I"⟩
abbrev cX1_toldBright : ByteArray := prog_3_method_6_code
def yX1_toldBright : MethodName := ⟨RX1, "toldBright", "()I"⟩
abbrev cX1_isOf : ByteArray := prog_3_method_7_code
def yX1_isOf : MethodName := ⟨RX1, "isOf", "(I)Z"⟩
abbrev cX1_movedBy : ByteArray := prog_3_method_8_code
def yX1_movedBy : MethodName := ⟨RX1, "movedBy", "(I)I"⟩
abbrev cX1_placeAt : ByteArray := prog_3_method_9_code
def yX1_placeAt : MethodName := ⟨RX1, "placeAt", "(I)I"⟩
abbrev cX1_brightAt : ByteArray := prog_3_method_10_code
def yX1_brightAt : MethodName := ⟨RX1, "brightAt", "(I)I"⟩
abbrev cX1_brightTogether : ByteArray := prog_3_method_11_code
def yX1_brightTogether : MethodName := ⟨RX1, "brightTogether", "(II)I"⟩
abbrev cX1_movesWithin : ByteArray := prog_3_method_12_code
def yX1_movesWithin : MethodName := ⟨RX1, "movesWithin", "(II)I"⟩
abbrev cX1_returnsAfter : ByteArray := prog_3_method_13_code
def yX1_returnsAfter : MethodName := ⟨RX1, "returnsAfter", "(I)I"⟩
def RX2 : String := "DomeSlit$Line"
def TX2 : u_T := fun k => match k with
  | 0 => ("DomeSlit$Line", "cells", "[I", true)
  | _ => ("DomeSlit$Line", "size", "I", false)
def tyX2 : Nat → FieldType := fun k => match k with
  | 0 => .array .int
  | _ => .int
theorem nmX2 : ∀ a, a < 2 → ∀ b, b < 2 → a ≠ b → (TX2 a).2.1 ≠ (TX2 b).2.1 := by decide +kernel
theorem tyX2_ok : ∀ k, k < 2 → parseFieldDescriptor (TX2 k).2.2.1 = some (tyX2 k) := by decide +kernel
abbrev cX2_init : ByteArray := prog_4_method_1_code
def yX2_init : MethodName := ⟨RX2, "<init>", "(I)V"⟩
abbrev cX2_room : ByteArray := prog_4_method_2_code
def yX2_room : MethodName := ⟨RX2, "room", "()I"⟩
abbrev cX2_size : ByteArray := prog_4_method_3_code
def yX2_size : MethodName := ⟨RX2, "size", "()I"⟩
abbrev cX2_isMissing : ByteArray := prog_4_method_4_code
def yX2_isMissing : MethodName := ⟨RX2, "isMissing", "()Z"⟩
abbrev cX2_remove : ByteArray := prog_4_method_5_code
def yX2_remove : MethodName := ⟨RX2, "remove", "()V"⟩
abbrev cX2_renew : ByteArray := prog_4_method_6_code
def yX2_renew : MethodName := ⟨RX2, "renew", "(II)V"⟩
abbrev cX2_holds : ByteArray := prog_4_method_7_code
def yX2_holds : MethodName := ⟨RX2, "holds", "(I)Z"⟩
abbrev cX2_holdsRun : ByteArray := prog_4_method_8_code
def yX2_holdsRun : MethodName := ⟨RX2, "holdsRun", "(II)Z"⟩
abbrev cX2_read : ByteArray := prog_4_method_9_code
def yX2_read : MethodName := ⟨RX2, "read", "(I)I"⟩
abbrev cX2_write : ByteArray := prog_4_method_10_code
def yX2_write : MethodName := ⟨RX2, "write", "(II)V"⟩
abbrev cX2_take : ByteArray := prog_4_method_11_code
def yX2_take : MethodName := ⟨RX2, "take", "(ILDomeSlit$Line;II)V"⟩
abbrev cX2_sum : ByteArray := prog_4_method_12_code
def yX2_sum : MethodName := ⟨RX2, "sum", "()J"⟩
abbrev cX2_isAllWithin : ByteArray := prog_4_method_13_code
def yX2_isAllWithin : MethodName := ⟨RX2, "isAllWithin", "(II)Z"⟩
abbrev cX2_firstLess : ByteArray := prog_4_method_14_code
def yX2_firstLess : MethodName := ⟨RX2, "firstLess", "()I"⟩
abbrev cX2_mixedInto : ByteArray := prog_4_method_15_code
def yX2_mixedInto : MethodName := ⟨RX2, "mixedInto", "(J)J"⟩
def RX3 : String := "DomeSlit$Night"
def TX3 : u_T := fun k => match k with
  | 0 => ("DomeSlit$Night", "deeds", "[I", true)
  | 1 => ("DomeSlit$Night", "done", "I", false)
  | 2 => ("DomeSlit$Night", "moment", "I", false)
  | 3 => ("DomeSlit$Night", "first", "I", false)
  | _ => ("DomeSlit$Night", "spent", "I", false)
def tyX3 : Nat → FieldType := fun k => match k with
  | 0 => .array .int
  | 1 => .int
  | 2 => .int
  | 3 => .int
  | _ => .int
theorem nmX3 : ∀ a, a < 5 → ∀ b, b < 5 → a ≠ b → (TX3 a).2.1 ≠ (TX3 b).2.1 := by decide +kernel
theorem tyX3_ok : ∀ k, k < 5 → parseFieldDescriptor (TX3 k).2.2.1 = some (tyX3 k) := by decide +kernel
abbrev cX3_init : ByteArray := prog_5_method_1_code
def yX3_init : MethodName := ⟨RX3, "<init>", "()V"⟩
abbrev cX3_begin : ByteArray := prog_5_method_2_code
def yX3_begin : MethodName := ⟨RX3, "begin", "()V"⟩
abbrev cX3_forget : ByteArray := prog_5_method_3_code
def yX3_forget : MethodName := ⟨RX3, "forget", "()V"⟩
abbrev cX3_isForgotten : ByteArray := prog_5_method_4_code
def yX3_isForgotten : MethodName := ⟨RX3, "isForgotten", "()Z"⟩
abbrev cX3_done : ByteArray := prog_5_method_5_code
def yX3_done : MethodName := ⟨RX3, "done", "()I"⟩
abbrev cX3_now : ByteArray := prog_5_method_6_code
def yX3_now : MethodName := ⟨RX3, "now", "()I"⟩
abbrev cX3_first : ByteArray := prog_5_method_7_code
def yX3_first : MethodName := ⟨RX3, "first", "()I"⟩
abbrev cX3_spent : ByteArray := prog_5_method_8_code
def yX3_spent : MethodName := ⟨RX3, "spent", "()I"⟩
abbrev cX3_hasRoom : ByteArray := prog_5_method_9_code
def yX3_hasRoom : MethodName := ⟨RX3, "hasRoom", "(I)Z"⟩
abbrev cX3_pass : ByteArray := prog_5_method_10_code
def yX3_pass : MethodName := ⟨RX3, "pass", "()V"⟩
abbrev cX3_turnBy : ByteArray := prog_5_method_11_code
def yX3_turnBy : MethodName := ⟨RX3, "turnBy", "(ILDomeSlit$Slit;)I"⟩
abbrev cX3_rewind : ByteArray := prog_5_method_12_code
def yX3_rewind : MethodName := ⟨RX3, "rewind", "(ILDomeSlit$Slit;)V"⟩
abbrev cX3_become : ByteArray := prog_5_method_13_code
def yX3_become : MethodName := ⟨RX3, "become", "(LDomeSlit$Night;)V"⟩
abbrev cX3_note : ByteArray := prog_5_method_14_code
def yX3_note : MethodName := ⟨RX3, "note", "(I)V"⟩
def RX4 : String := "DomeSlit$Reader"
def TX4 : u_T := fun k => match k with
  | 0 => ("DomeSlit$Reader", "parts", "[I", true)
  | 1 => ("DomeSlit$Reader", "broad", "I", false)
  | 2 => ("DomeSlit$Reader", "sticks", "I", false)
  | 3 => ("DomeSlit$Reader", "lightsRead", "I", false)
  | 4 => ("DomeSlit$Reader", "here", "I", false)
  | _ => ("DomeSlit$Reader", "broken", "Z", false)
def tyX4 : Nat → FieldType := fun k => match k with
  | 0 => .array .int
  | 1 => .int
  | 2 => .int
  | 3 => .int
  | 4 => .int
  | _ => .boolean
theorem nmX4 : ∀ a, a < 6 → ∀ b, b < 6 → a ≠ b → (TX4 a).2.1 ≠ (TX4 b).2.1 := by decide +kernel
theorem tyX4_ok : ∀ k, k < 6 → parseFieldDescriptor (TX4 k).2.2.1 = some (tyX4 k) := by decide +kernel
abbrev cX4_init : ByteArray := prog_6_method_1_code
def yX4_init : MethodName := ⟨RX4, "<init>", "()V"⟩
abbrev cX4_faultOf : ByteArray := prog_6_method_2_code
def yX4_faultOf : MethodName := ⟨RX4, "faultOf", "(LDomeSlit$Line;)I"⟩
abbrev cX4_build : ByteArray := prog_6_method_3_code
def yX4_build : MethodName := ⟨RX4, "build", "(LDomeSlit$Slit;[LDomeSlit$Light;)I"⟩
abbrev cX4_readLight : ByteArray := prog_6_method_4_code
def yX4_readLight : MethodName := ⟨RX4, "readLight", "(LDomeSlit$Line;I)V"⟩
abbrev cX4_skipBlanks : ByteArray := prog_6_method_5_code
def yX4_skipBlanks : MethodName := ⟨RX4, "skipBlanks", "(LDomeSlit$Line;)V"⟩
abbrev cX4_readDomeLetter : ByteArray := prog_6_method_6_code
def yX4_readDomeLetter : MethodName := ⟨RX4, "readDomeLetter", "(LDomeSlit$Line;)V"⟩
abbrev cX4_kindLetter : ByteArray := prog_6_method_7_code
def yX4_kindLetter : MethodName := ⟨RX4, "kindLetter", "(LDomeSlit$Line;)I"⟩
abbrev cX4_placeFigures : ByteArray := prog_6_method_8_code
def yX4_placeFigures : MethodName := ⟨RX4, "placeFigures", "(LDomeSlit$Line;)I"⟩
abbrev cX4_figure : ByteArray := prog_6_method_9_code
def yX4_figure : MethodName := ⟨RX4, "figure", "(LDomeSlit$Line;II)I"⟩
abbrev cX4_goOnIf : ByteArray := prog_6_method_10_code
def yX4_goOnIf : MethodName := ⟨RX4, "goOnIf", "(Z)V"⟩
def RX5 : String := "DomeSlit$Sleeper"
def TX5 : u_T := fun k => match k with
  | 0 => ("DomeSlit$Sleeper", "view", "LDomeSlit$View;", true)
  | 1 => ("DomeSlit$Sleeper", "weights", "[J", false)
  | 2 => ("DomeSlit$Sleeper", "spare", "[J", false)
  | _ => ("DomeSlit$Sleeper", "whole", "J", false)
def tyX5 : Nat → FieldType := fun k => match k with
  | 0 => .object "DomeSlit$View"
  | 1 => .array .long
  | 2 => .array .long
  | _ => .long
theorem nmX5 : ∀ a, a < 4 → ∀ b, b < 4 → a ≠ b → (TX5 a).2.1 ≠ (TX5 b).2.1 := by decide +kernel
theorem tyX5_ok : ∀ k, k < 4 → parseFieldDescriptor (TX5 k).2.2.1 = some (tyX5 k) := by decide +kernel
abbrev cX5_init : ByteArray := prog_7_method_1_code
def yX5_init : MethodName := ⟨RX5, "<init>", "(LDomeSlit$View;)V"⟩
abbrev cX5_whole : ByteArray := prog_7_method_2_code
def yX5_whole : MethodName := ⟨RX5, "whole", "()J"⟩
abbrev cX5_weigh : ByteArray := prog_7_method_3_code
def yX5_weigh : MethodName := ⟨RX5, "weigh", "(ILDomeSlit$Line;IZ)J"⟩
abbrev cX5_spread : ByteArray := prog_7_method_4_code
def yX5_spread : MethodName := ⟨RX5, "spread", "(II)V"⟩
abbrev cX5_gotAt : ByteArray := prog_7_method_5_code
def yX5_gotAt : MethodName := ⟨RX5, "gotAt", "(IZ)J"⟩
abbrev cX5_weightLeft : ByteArray := prog_7_method_6_code
def yX5_weightLeft : MethodName := ⟨RX5, "weightLeft", "()J"⟩
def RX6 : String := "DomeSlit$Slit"
def TX6 : u_T := fun k => match k with
  | 0 => ("DomeSlit$Slit", "broad", "I", false)
  | _ => ("DomeSlit$Slit", "sticks", "I", false)
def tyX6 : Nat → FieldType := fun k => match k with
  | 0 => .int
  | _ => .int
theorem nmX6 : ∀ a, a < 2 → ∀ b, b < 2 → a ≠ b → (TX6 a).2.1 ≠ (TX6 b).2.1 := by decide +kernel
theorem tyX6_ok : ∀ k, k < 2 → parseFieldDescriptor (TX6 k).2.2.1 = some (tyX6 k) := by decide +kernel
abbrev cX6_init : ByteArray := prog_8_method_1_code
def yX6_init : MethodName := ⟨RX6, "<init>", "()V"⟩
abbrev cX6_become : ByteArray := prog_8_method_2_code
def yX6_become : MethodName := ⟨RX6, "become", "(II)V"⟩
abbrev cX6_broad : ByteArray := prog_8_method_3_code
def yX6_broad : MethodName := ⟨RX6, "broad", "()I"⟩
abbrev cX6_times : ByteArray := prog_8_method_4_code
def yX6_times : MethodName := ⟨RX6, "times", "(II)I"⟩
abbrev cX6_gain : ByteArray := prog_8_method_5_code
def yX6_gain : MethodName := ⟨RX6, "gain", "(ILDomeSlit$Light;I)I"⟩
abbrev cX6_effortOf : ByteArray := prog_8_method_6_code
def yX6_effortOf : MethodName := ⟨RX6, "effortOf", "(II)I"⟩
abbrev cX6_leastWayToBest : ByteArray := prog_8_method_7_code
def yX6_leastWayToBest : MethodName := ⟨RX6, "leastWayToBest", "(II)I"⟩
def RX7 : String := "DomeSlit$View"
def TX7 : u_T := fun k => match k with
  | _ => ("DomeSlit$View", "gains", "[I", true)
def tyX7 : Nat → FieldType := fun k => match k with
  | _ => .array .int
theorem nmX7 : ∀ a, a < 1 → ∀ b, b < 1 → a ≠ b → (TX7 a).2.1 ≠ (TX7 b).2.1 := by decide +kernel
theorem tyX7_ok : ∀ k, k < 1 → parseFieldDescriptor (TX7 k).2.2.1 = some (tyX7 k) := by decide +kernel
abbrev cX7_init : ByteArray := prog_9_method_1_code
def yX7_init : MethodName := ⟨RX7, "<init>", "()V"⟩
abbrev cX7_fill : ByteArray := prog_9_method_2_code
def yX7_fill : MethodName := ⟨RX7, "fill", "(LDomeSlit$Light;LDomeSlit$Slit;II)V"⟩
abbrev cX7_gain : ByteArray := prog_9_method_3_code
def yX7_gain : MethodName := ⟨RX7, "gain", "(II)I"⟩
def RX8 : String := "DomeSlit"
def TX8 : u_T := fun k => match k with
  | 0 => ("DomeSlit", "rows", "[LDomeSlit$Line;", true)
  | 1 => ("DomeSlit", "texts", "[LDomeSlit$Line;", true)
  | 2 => ("DomeSlit", "reader", "LDomeSlit$Reader;", true)
  | 3 => ("DomeSlit", "lights", "[LDomeSlit$Light;", true)
  | 4 => ("DomeSlit", "guess", "LDomeSlit$Light;", true)
  | 5 => ("DomeSlit", "slit", "LDomeSlit$Slit;", true)
  | 6 => ("DomeSlit", "night", "LDomeSlit$Night;", true)
  | 7 => ("DomeSlit", "kept", "[LDomeSlit$Night;", true)
  | 8 => ("DomeSlit", "view", "LDomeSlit$View;", true)
  | 9 => ("DomeSlit", "follower", "LDomeSlit$Follower;", true)
  | 10 => ("DomeSlit", "sleeper", "LDomeSlit$Sleeper;", true)
  | 11 => ("DomeSlit", "foundCounts", "[I", true)
  | 12 => ("DomeSlit", "lightCount", "I", false)
  | 13 => ("DomeSlit", "latestFound", "I", false)
  | 14 => ("DomeSlit", "told", "I", false)
  | 15 => ("DomeSlit", "upperPart", "J", false)
  | _ => ("DomeSlit", "lowerPart", "J", false)
def tyX8 : Nat → FieldType := fun k => match k with
  | 0 => .array (.object "DomeSlit$Line")
  | 1 => .array (.object "DomeSlit$Line")
  | 2 => .object "DomeSlit$Reader"
  | 3 => .array (.object "DomeSlit$Light")
  | 4 => .object "DomeSlit$Light"
  | 5 => .object "DomeSlit$Slit"
  | 6 => .object "DomeSlit$Night"
  | 7 => .array (.object "DomeSlit$Night")
  | 8 => .object "DomeSlit$View"
  | 9 => .object "DomeSlit$Follower"
  | 10 => .object "DomeSlit$Sleeper"
  | 11 => .array .int
  | 12 => .int
  | 13 => .int
  | 14 => .int
  | 15 => .long
  | _ => .long
theorem nmX8 : ∀ a, a < 17 → ∀ b, b < 17 → a ≠ b → (TX8 a).2.1 ≠ (TX8 b).2.1 := by decide +kernel
theorem tyX8_ok : ∀ k, k < 17 → parseFieldDescriptor (TX8 k).2.2.1 = some (tyX8 k) := by decide +kernel
abbrev cX8_init : ByteArray := prog_1_method_1_code
def yX8_init : MethodName := ⟨RX8, "<init>", "()V"⟩
abbrev cX8_row : ByteArray := prog_1_method_2_code
def yX8_row : MethodName := ⟨RX8, "row", "(II)I"⟩
abbrev cX8_lay : ByteArray := prog_1_method_3_code
def yX8_lay : MethodName := ⟨RX8, "lay", "(III)I"⟩
abbrev cX8_at : ByteArray := prog_1_method_4_code
def yX8_at : MethodName := ⟨RX8, "at", "(II)I"⟩
abbrev cX8_tear : ByteArray := prog_1_method_5_code
def yX8_tear : MethodName := ⟨RX8, "tear", "(I)I"⟩
abbrev cX8_copy : ByteArray := prog_1_method_6_code
def yX8_copy : MethodName := ⟨RX8, "copy", "(IIIII)I"⟩
abbrev cX8_mean : ByteArray := prog_1_method_7_code
def yX8_mean : MethodName := ⟨RX8, "mean", "(I)I"⟩
abbrev cX8_text : ByteArray := prog_1_method_8_code
def yX8_text : MethodName := ⟨RX8, "text", "(II)I"⟩
abbrev cX8_put : ByteArray := prog_1_method_9_code
def yX8_put : MethodName := ⟨RX8, "put", "(III)I"⟩
abbrev cX8_fault : ByteArray := prog_1_method_10_code
def yX8_fault : MethodName := ⟨RX8, "fault", "(I)I"⟩
abbrev cX8_dome : ByteArray := prog_1_method_11_code
def yX8_dome : MethodName := ⟨RX8, "dome", "(I)I"⟩
abbrev cX8_light : ByteArray := prog_1_method_12_code
def yX8_light : MethodName := ⟨RX8, "light", "(II)I"⟩
abbrev cX8_mark : ByteArray := prog_1_method_13_code
def yX8_mark : MethodName := ⟨RX8, "mark", "(II)I"⟩
abbrev cX8_moment : ByteArray := prog_1_method_14_code
def yX8_moment : MethodName := ⟨RX8, "moment", "()I"⟩
abbrev cX8_turn : ByteArray := prog_1_method_15_code
def yX8_turn : MethodName := ⟨RX8, "turn", "(I)I"⟩
abbrev cX8_undo : ByteArray := prog_1_method_16_code
def yX8_undo : MethodName := ⟨RX8, "undo", "(I)I"⟩
abbrev cX8_keep : ByteArray := prog_1_method_17_code
def yX8_keep : MethodName := ⟨RX8, "keep", "(I)I"⟩
abbrev cX8_on : ByteArray := prog_1_method_18_code
def yX8_on : MethodName := ⟨RX8, "on", "(I)I"⟩
abbrev cX8_place : ByteArray := prog_1_method_19_code
def yX8_place : MethodName := ⟨RX8, "place", "(II)I"⟩
abbrev cX8_gets : ByteArray := prog_1_method_20_code
def yX8_gets : MethodName := ⟨RX8, "gets", "(II)I"⟩
abbrev cX8_seen : ByteArray := prog_1_method_21_code
def yX8_seen : MethodName := ⟨RX8, "seen", "(I)I"⟩
abbrev cX8_stays : ByteArray := prog_1_method_22_code
def yX8_stays : MethodName := ⟨RX8, "stays", "(I)I"⟩
abbrev cX8_ahead : ByteArray := prog_1_method_23_code
def yX8_ahead : MethodName := ⟨RX8, "ahead", "(I)I"⟩
abbrev cX8_effort : ByteArray := prog_1_method_24_code
def yX8_effort : MethodName := ⟨RX8, "effort", "(I)I"⟩
abbrev cX8_follow : ByteArray := prog_1_method_25_code
def yX8_follow : MethodName := ⟨RX8, "follow", "(III)I"⟩
abbrev cX8_turns : ByteArray := prog_1_method_26_code
def yX8_turns : MethodName := ⟨RX8, "turns", "(II)I"⟩
abbrev cX8_most : ByteArray := prog_1_method_27_code
def yX8_most : MethodName := ⟨RX8, "most", "(III)I"⟩
abbrev cX8_by : ByteArray := prog_1_method_28_code
def yX8_by : MethodName := ⟨RX8, "by", "(II)I"⟩
abbrev cX8_order : ByteArray := prog_1_method_29_code
def yX8_order : MethodName := ⟨RX8, "order", "(I)I"⟩
abbrev cX8_kinds : ByteArray := prog_1_method_30_code
def yX8_kinds : MethodName := ⟨RX8, "kinds", "(II)I"⟩
abbrev cX8_places : ByteArray := prog_1_method_31_code
def yX8_places : MethodName := ⟨RX8, "places", "(II)I"⟩
abbrev cX8_speeds : ByteArray := prog_1_method_32_code
def yX8_speeds : MethodName := ⟨RX8, "speeds", "(II)I"⟩
abbrev cX8_fainter : ByteArray := prog_1_method_33_code
def yX8_fainter : MethodName := ⟨RX8, "fainter", "(II)I"⟩
abbrev cX8_cloud : ByteArray := prog_1_method_34_code
def yX8_cloud : MethodName := ⟨RX8, "cloud", "(II)I"⟩
abbrev cX8_mid : ByteArray := prog_1_method_35_code
def yX8_mid : MethodName := ⟨RX8, "mid", "(III)I"⟩
abbrev cX8_odds : ByteArray := prog_1_method_36_code
def yX8_odds : MethodName := ⟨RX8, "odds", "(III)I"⟩
abbrev cX8_lots : ByteArray := prog_1_method_37_code
def yX8_lots : MethodName := ⟨RX8, "lots", "(II)I"⟩
abbrev cX8_asked : ByteArray := prog_1_method_38_code
def yX8_asked : MethodName := ⟨RX8, "asked", "()I"⟩
abbrev cX8_upper : ByteArray := prog_1_method_39_code
def yX8_upper : MethodName := ⟨RX8, "upper", "()J"⟩
abbrev cX8_lower : ByteArray := prog_1_method_40_code
def yX8_lower : MethodName := ⟨RX8, "lower", "()J"⟩
abbrev cX8_count : ByteArray := prog_1_method_41_code
def yX8_count : MethodName := ⟨RX8, "count", "(I)I"⟩
abbrev cX8_finding : ByteArray := prog_1_method_42_code
def yX8_finding : MethodName := ⟨RX8, "finding", "()I"⟩
abbrev cX8_findings : ByteArray := prog_1_method_43_code
def yX8_findings : MethodName := ⟨RX8, "findings", "(I)I"⟩
abbrev cX8_digest : ByteArray := prog_1_method_44_code
def yX8_digest : MethodName := ⟨RX8, "digest", "()J"⟩
abbrev cX8_round : ByteArray := prog_1_method_45_code
def yX8_round : MethodName := ⟨RX8, "round", "(I)I"⟩
abbrev cX8_isTooFar : ByteArray := prog_1_method_46_code
def yX8_isTooFar : MethodName := ⟨RX8, "isTooFar", "(I)Z"⟩
abbrev cX8_isNoFollowing : ByteArray := prog_1_method_47_code
def yX8_isNoFollowing : MethodName := ⟨RX8, "isNoFollowing", "(I)Z"⟩
abbrev cX8_lineAt : ByteArray := prog_1_method_48_code
def yX8_lineAt : MethodName := ⟨RX8, "lineAt", "([LDomeSlit$Line;I)LDomeSlit$Line;"⟩
abbrev cX8_lightAt : ByteArray := prog_1_method_49_code
def yX8_lightAt : MethodName := ⟨RX8, "lightAt", "(I)LDomeSlit$Light;"⟩
abbrev cX8_found : ByteArray := prog_1_method_50_code
def yX8_found : MethodName := ⟨RX8, "found", "(I)I"⟩
abbrev cX8_renewed : ByteArray := prog_1_method_51_code
def yX8_renewed : MethodName := ⟨RX8, "renewed", "(LDomeSlit$Line;II)I"⟩
abbrev cX8_refuseLine : ByteArray := prog_1_method_52_code
def yX8_refuseLine : MethodName := ⟨RX8, "refuseLine", "(LDomeSlit$Line;)I"⟩
abbrev cX8_refusePlace : ByteArray := prog_1_method_53_code
def yX8_refusePlace : MethodName := ⟨RX8, "refusePlace", "(LDomeSlit$Line;I)I"⟩
abbrev cX8_refuseTurns : ByteArray := prog_1_method_54_code
def yX8_refuseTurns : MethodName := ⟨RX8, "refuseTurns", "(LDomeSlit$Line;)I"⟩
abbrev cX8_refuseNotes : ByteArray := prog_1_method_55_code
def yX8_refuseNotes : MethodName := ⟨RX8, "refuseNotes", "(LDomeSlit$Line;)I"⟩
abbrev cX8_gainIn : ByteArray := prog_1_method_56_code
def yX8_gainIn : MethodName := ⟨RX8, "gainIn", "(LDomeSlit$Light;I)I"⟩
abbrev cX8_timesOver : ByteArray := prog_1_method_57_code
def yX8_timesOver : MethodName := ⟨RX8, "timesOver", "(LDomeSlit$Light;I)I"⟩
abbrev cX8_overFor : ByteArray := prog_1_method_58_code
def yX8_overFor : MethodName := ⟨RX8, "overFor", "(LDomeSlit$Light;I)I"⟩
abbrev cX8_guessed : ByteArray := prog_1_method_59_code
def yX8_guessed : MethodName := ⟨RX8, "guessed", "(III)I"⟩
abbrev cX8_guessFits : ByteArray := prog_1_method_60_code
def yX8_guessFits : MethodName := ⟨RX8, "guessFits", "(LDomeSlit$Line;)Z"⟩
abbrev cX8_passMoment : ByteArray := prog_1_method_61_code
def yX8_passMoment : MethodName := ⟨RX8, "passMoment", "()I"⟩
abbrev cX8_bySleep : ByteArray := prog_1_method_62_code
def yX8_bySleep : MethodName := ⟨RX8, "bySleep", "(IIIZ)I"⟩
abbrev cX8_tellChances : ByteArray := prog_1_method_63_code
def yX8_tellChances : MethodName := ⟨RX8, "tellChances", "(JJ)V"⟩
abbrev cX8_greatestCommon : ByteArray := prog_1_method_64_code
def yX8_greatestCommon : MethodName := ⟨RX8, "greatestCommon", "(JJ)J"⟩
abbrev cX8_factOf : ByteArray := prog_1_method_65_code
def yX8_factOf : MethodName := ⟨RX8, "factOf", "(LDomeSlit$Light;I)I"⟩
abbrev cX8_counted : ByteArray := prog_1_method_66_code
def yX8_counted : MethodName := ⟨RX8, "counted", "(I)I"⟩
abbrev cX8_lightsOf : ByteArray := prog_1_method_67_code
def yX8_lightsOf : MethodName := ⟨RX8, "lightsOf", "(I)I"⟩
abbrev cX8_linesThere : ByteArray := prog_1_method_68_code
def yX8_linesThere : MethodName := ⟨RX8, "linesThere", "([LDomeSlit$Line;)I"⟩
abbrev cX8_keptThere : ByteArray := prog_1_method_69_code
def yX8_keptThere : MethodName := ⟨RX8, "keptThere", "()I"⟩
def RX9 : String := "DomeSlitModel"
def TX9 : u_T := fun k => match k with
  | 0 => ("DomeSlitModel", "row", "[I", true)
  | 1 => ("DomeSlitModel", "broad", "I", false)
  | 2 => ("DomeSlitModel", "sticks", "I", false)
  | 3 => ("DomeSlitModel", "lights", "I", false)
  | 4 => ("DomeSlitModel", "kinds", "[I", true)
  | 5 => ("DomeSlitModel", "begun", "[I", true)
  | 6 => ("DomeSlitModel", "speeds", "[I", true)
  | 7 => ("DomeSlitModel", "brights", "[I", true)
  | 8 => ("DomeSlitModel", "sizes", "[I", true)
  | 9 => ("DomeSlitModel", "items", "[I", true)
  | 10 => ("DomeSlitModel", "lengths", "[I", true)
  | 11 => ("DomeSlitModel", "bytes", "[I", true)
  | 12 => ("DomeSlitModel", "asked", "I", false)
  | 13 => ("DomeSlitModel", "upper", "J", false)
  | 14 => ("DomeSlitModel", "lower", "J", false)
  | 15 => ("DomeSlitModel", "finding", "I", false)
  | 16 => ("DomeSlitModel", "findings", "[I", true)
  | 17 => ("DomeSlitModel", "from", "I", false)
  | 18 => ("DomeSlitModel", "place", "I", false)
  | 19 => ("DomeSlitModel", "end", "I", false)
  | 20 => ("DomeSlitModel", "readBroad", "I", false)
  | 21 => ("DomeSlitModel", "readSticks", "I", false)
  | 22 => ("DomeSlitModel", "readLights", "[I", true)
  | 23 => ("DomeSlitModel", "readMany", "I", false)
  | 24 => ("DomeSlitModel", "least", "[I", true)
  | 25 => ("DomeSlitModel", "efforts", "[I", true)
  | 26 => ("DomeSlitModel", "most", "[I", true)
  | 27 => ("DomeSlitModel", "more", "[I", true)
  | 28 => ("DomeSlitModel", "order", "[I", true)
  | 29 => ("DomeSlitModel", "clouds", "[I", true)
  | 30 => ("DomeSlitModel", "ahead", "[I", true)
  | 31 => ("DomeSlitModel", "gotAll", "I", false)
  | _ => ("DomeSlitModel", "gotEach", "Z", false)
def tyX9 : Nat → FieldType := fun k => match k with
  | 0 => .array .int
  | 1 => .int
  | 2 => .int
  | 3 => .int
  | 4 => .array .int
  | 5 => .array .int
  | 6 => .array .int
  | 7 => .array .int
  | 8 => .array .int
  | 9 => .array .int
  | 10 => .array .int
  | 11 => .array .int
  | 12 => .int
  | 13 => .long
  | 14 => .long
  | 15 => .int
  | 16 => .array .int
  | 17 => .int
  | 18 => .int
  | 19 => .int
  | 20 => .int
  | 21 => .int
  | 22 => .array .int
  | 23 => .int
  | 24 => .array .int
  | 25 => .array .int
  | 26 => .array .int
  | 27 => .array .int
  | 28 => .array .int
  | 29 => .array .int
  | 30 => .array .int
  | 31 => .int
  | _ => .boolean
theorem nmX9 : ∀ a, a < 33 → ∀ b, b < 33 → a ≠ b → (TX9 a).2.1 ≠ (TX9 b).2.1 := by decide +kernel
theorem tyX9_ok : ∀ k, k < 33 → parseFieldDescriptor (TX9 k).2.2.1 = some (tyX9 k) := by decide +kernel
abbrev cX9_init : ByteArray := prog_11_method_1_code
def yX9_init : MethodName := ⟨RX9, "<init>", "()V"⟩
abbrev cX9_in : ByteArray := prog_11_method_2_code
def yX9_in : MethodName := ⟨RX9, "in", "(JJJ)Z"⟩
abbrev cX9_has : ByteArray := prog_11_method_3_code
def yX9_has : MethodName := ⟨RX9, "has", "(II)Z"⟩
abbrev cX9_find : ByteArray := prog_11_method_4_code
def yX9_find : MethodName := ⟨RX9, "find", "(I)I"⟩
abbrev cX9_tell : ByteArray := prog_11_method_5_code
def yX9_tell : MethodName := ⟨RX9, "tell", "(I)I"⟩
abbrev cX9_isRow : ByteArray := prog_11_method_6_code
def yX9_isRow : MethodName := ⟨RX9, "isRow", "(I)Z"⟩
abbrev cX9_isText : ByteArray := prog_11_method_7_code
def yX9_isText : MethodName := ⟨RX9, "isText", "(I)Z"⟩
abbrev cX9_row : ByteArray := prog_11_method_8_code
def yX9_row : MethodName := ⟨RX9, "row", "(II)I"⟩
abbrev cX9_makeRow : ByteArray := prog_11_method_9_code
def yX9_makeRow : MethodName := ⟨RX9, "makeRow", "(II)V"⟩
abbrev cX9_refused : ByteArray := prog_11_method_10_code
def yX9_refused : MethodName := ⟨RX9, "refused", "(II)I"⟩
abbrev cX9_lay : ByteArray := prog_11_method_11_code
def yX9_lay : MethodName := ⟨RX9, "lay", "(III)I"⟩
abbrev cX9_at : ByteArray := prog_11_method_12_code
def yX9_at : MethodName := ⟨RX9, "at", "(II)I"⟩
abbrev cX9_tear : ByteArray := prog_11_method_13_code
def yX9_tear : MethodName := ⟨RX9, "tear", "(I)I"⟩
abbrev cX9_isSpan : ByteArray := prog_11_method_14_code
def yX9_isSpan : MethodName := ⟨RX9, "isSpan", "(III)Z"⟩
abbrev cX9_copy : ByteArray := prog_11_method_15_code
def yX9_copy : MethodName := ⟨RX9, "copy", "(IIIII)I"⟩
abbrev cX9_mean : ByteArray := prog_11_method_16_code
def yX9_mean : MethodName := ⟨RX9, "mean", "(I)I"⟩
abbrev cX9_text : ByteArray := prog_11_method_17_code
def yX9_text : MethodName := ⟨RX9, "text", "(II)I"⟩
abbrev cX9_put : ByteArray := prog_11_method_18_code
def yX9_put : MethodName := ⟨RX9, "put", "(III)I"⟩
abbrev cX9_here : ByteArray := prog_11_method_19_code
def yX9_here : MethodName := ⟨RX9, "here", "()I"⟩
abbrev cX9_skip : ByteArray := prog_11_method_20_code
def yX9_skip : MethodName := ⟨RX9, "skip", "()V"⟩
abbrev cX9_figure : ByteArray := prog_11_method_21_code
def yX9_figure : MethodName := ⟨RX9, "figure", "(II)I"⟩
abbrev cX9_figures : ByteArray := prog_11_method_22_code
def yX9_figures : MethodName := ⟨RX9, "figures", "()I"⟩
abbrev cX9_readsSlit : ByteArray := prog_11_method_23_code
def yX9_readsSlit : MethodName := ⟨RX9, "readsSlit", "()Z"⟩
abbrev cX9_kindOfLetter : ByteArray := prog_11_method_24_code
def yX9_kindOfLetter : MethodName := ⟨RX9, "kindOfLetter", "(I)I"⟩
abbrev cX9_readsLight : ByteArray := prog_11_method_25_code
def yX9_readsLight : MethodName := ⟨RX9, "readsLight", "()Z"⟩
abbrev cX9_faultOf : ByteArray := prog_11_method_26_code
def yX9_faultOf : MethodName := ⟨RX9, "faultOf", "(I)I"⟩
abbrev cX9_fault : ByteArray := prog_11_method_27_code
def yX9_fault : MethodName := ⟨RX9, "fault", "(I)I"⟩
abbrev cX9_dome : ByteArray := prog_11_method_28_code
def yX9_dome : MethodName := ⟨RX9, "dome", "(I)I"⟩
abbrev cX9_isLight : ByteArray := prog_11_method_29_code
def yX9_isLight : MethodName := ⟨RX9, "isLight", "(I)Z"⟩
abbrev cX9_ring : ByteArray := prog_11_method_30_code
def yX9_ring : MethodName := ⟨RX9, "ring", "(I)I"⟩
abbrev cX9_moved : ByteArray := prog_11_method_31_code
def yX9_moved : MethodName := ⟨RX9, "moved", "(III)I"⟩
abbrev cX9_placeAt : ByteArray := prog_11_method_32_code
def yX9_placeAt : MethodName := ⟨RX9, "placeAt", "(II)I"⟩
abbrev cX9_now : ByteArray := prog_11_method_33_code
def yX9_now : MethodName := ⟨RX9, "now", "(I)I"⟩
abbrev cX9_brightOf : ByteArray := prog_11_method_34_code
def yX9_brightOf : MethodName := ⟨RX9, "brightOf", "(III)I"⟩
abbrev cX9_brightAt : ByteArray := prog_11_method_35_code
def yX9_brightAt : MethodName := ⟨RX9, "brightAt", "(II)I"⟩
abbrev cX9_times : ByteArray := prog_11_method_36_code
def yX9_times : MethodName := ⟨RX9, "times", "(II)I"⟩
abbrev cX9_got : ByteArray := prog_11_method_37_code
def yX9_got : MethodName := ⟨RX9, "got", "(III)I"⟩
abbrev cX9_gotNow : ByteArray := prog_11_method_38_code
def yX9_gotNow : MethodName := ⟨RX9, "gotNow", "()I"⟩
abbrev cX9_toldOf : ByteArray := prog_11_method_39_code
def yX9_toldOf : MethodName := ⟨RX9, "toldOf", "(II)I"⟩
abbrev cX9_light : ByteArray := prog_11_method_40_code
def yX9_light : MethodName := ⟨RX9, "light", "(II)I"⟩
abbrev cX9_isOf : ByteArray := prog_11_method_41_code
def yX9_isOf : MethodName := ⟨RX9, "isOf", "(II)Z"⟩
abbrev cX9_moves : ByteArray := prog_11_method_42_code
def yX9_moves : MethodName := ⟨RX9, "moves", "(I)I"⟩
abbrev cX9_back : ByteArray := prog_11_method_43_code
def yX9_back : MethodName := ⟨RX9, "back", "(I)I"⟩
abbrev cX9_fourBrights : ByteArray := prog_11_method_44_code
def yX9_fourBrights : MethodName := ⟨RX9, "fourBrights", "(I)I"⟩
abbrev cX9_offBest : ByteArray := prog_11_method_45_code
def yX9_offBest : MethodName := ⟨RX9, "offBest", "(I)I"⟩
abbrev cX9_mark : ByteArray := prog_11_method_46_code
def yX9_mark : MethodName := ⟨RX9, "mark", "(II)I"⟩
abbrev cX9_keepPast : ByteArray := prog_11_method_47_code
def yX9_keepPast : MethodName := ⟨RX9, "keepPast", "()V"⟩
abbrev cX9_doMoment : ByteArray := prog_11_method_48_code
def yX9_doMoment : MethodName := ⟨RX9, "doMoment", "()I"⟩
abbrev cX9_moment : ByteArray := prog_11_method_49_code
def yX9_moment : MethodName := ⟨RX9, "moment", "()I"⟩
abbrev cX9_effortFrom : ByteArray := prog_11_method_50_code
def yX9_effortFrom : MethodName := ⟨RX9, "effortFrom", "(II)I"⟩
abbrev cX9_doTurn : ByteArray := prog_11_method_51_code
def yX9_doTurn : MethodName := ⟨RX9, "doTurn", "(I)I"⟩
abbrev cX9_turn : ByteArray := prog_11_method_52_code
def yX9_turn : MethodName := ⟨RX9, "turn", "(I)I"⟩
abbrev cX9_undo : ByteArray := prog_11_method_53_code
def yX9_undo : MethodName := ⟨RX9, "undo", "(I)I"⟩
abbrev cX9_copyDome : ByteArray := prog_11_method_54_code
def yX9_copyDome : MethodName := ⟨RX9, "copyDome", "(II)V"⟩
abbrev cX9_keep : ByteArray := prog_11_method_55_code
def yX9_keep : MethodName := ⟨RX9, "keep", "(I)I"⟩
abbrev cX9_on : ByteArray := prog_11_method_56_code
def yX9_on : MethodName := ⟨RX9, "on", "(I)I"⟩
abbrev cX9_isAhead : ByteArray := prog_11_method_57_code
def yX9_isAhead : MethodName := ⟨RX9, "isAhead", "(I)Z"⟩
abbrev cX9_place : ByteArray := prog_11_method_58_code
def yX9_place : MethodName := ⟨RX9, "place", "(II)I"⟩
abbrev cX9_gets : ByteArray := prog_11_method_59_code
def yX9_gets : MethodName := ⟨RX9, "gets", "(II)I"⟩
abbrev cX9_seen : ByteArray := prog_11_method_60_code
def yX9_seen : MethodName := ⟨RX9, "seen", "(I)I"⟩
abbrev cX9_stays : ByteArray := prog_11_method_61_code
def yX9_stays : MethodName := ⟨RX9, "stays", "(I)I"⟩
abbrev cX9_over : ByteArray := prog_11_method_62_code
def yX9_over : MethodName := ⟨RX9, "over", "(II)I"⟩
abbrev cX9_ahead : ByteArray := prog_11_method_63_code
def yX9_ahead : MethodName := ⟨RX9, "ahead", "(I)I"⟩
abbrev cX9_effort : ByteArray := prog_11_method_64_code
def yX9_effort : MethodName := ⟨RX9, "effort", "(I)I"⟩
abbrev cX9_layEfforts : ByteArray := prog_11_method_65_code
def yX9_layEfforts : MethodName := ⟨RX9, "layEfforts", "()V"⟩
abbrev cX9_costOf : ByteArray := prog_11_method_66_code
def yX9_costOf : MethodName := ⟨RX9, "costOf", "(IIZ)I"⟩
abbrev cX9_onBy : ByteArray := prog_11_method_67_code
def yX9_onBy : MethodName := ⟨RX9, "onBy", "(IIIIZ)I"⟩
abbrev cX9_layLeast : ByteArray := prog_11_method_68_code
def yX9_layLeast : MethodName := ⟨RX9, "layLeast", "(IIZ)V"⟩
abbrev cX9_follow : ByteArray := prog_11_method_69_code
def yX9_follow : MethodName := ⟨RX9, "follow", "(III)I"⟩
abbrev cX9_turns : ByteArray := prog_11_method_70_code
def yX9_turns : MethodName := ⟨RX9, "turns", "(II)I"⟩
abbrev cX9_most : ByteArray := prog_11_method_71_code
def yX9_most : MethodName := ⟨RX9, "most", "(III)I"⟩
abbrev cX9_areAll : ByteArray := prog_11_method_72_code
def yX9_areAll : MethodName := ⟨RX9, "areAll", "(III)Z"⟩
abbrev cX9_noTurns : ByteArray := prog_11_method_73_code
def yX9_noTurns : MethodName := ⟨RX9, "noTurns", "(I)I"⟩
abbrev cX9_by : ByteArray := prog_11_method_74_code
def yX9_by : MethodName := ⟨RX9, "by", "(II)I"⟩
abbrev cX9_nextOrder : ByteArray := prog_11_method_75_code
def yX9_nextOrder : MethodName := ⟨RX9, "nextOrder", "(I)Z"⟩
abbrev cX9_orderEffort : ByteArray := prog_11_method_76_code
def yX9_orderEffort : MethodName := ⟨RX9, "orderEffort", "()I"⟩
abbrev cX9_order : ByteArray := prog_11_method_77_code
def yX9_order : MethodName := ⟨RX9, "order", "(I)I"⟩
abbrev cX9_noNotes : ByteArray := prog_11_method_78_code
def yX9_noNotes : MethodName := ⟨RX9, "noNotes", "(I)I"⟩
abbrev cX9_isSo : ByteArray := prog_11_method_79_code
def yX9_isSo : MethodName := ⟨RX9, "isSo", "(IIIII)Z"⟩
abbrev cX9_kinds : ByteArray := prog_11_method_80_code
def yX9_kinds : MethodName := ⟨RX9, "kinds", "(II)I"⟩
abbrev cX9_places : ByteArray := prog_11_method_81_code
def yX9_places : MethodName := ⟨RX9, "places", "(II)I"⟩
abbrev cX9_speeds : ByteArray := prog_11_method_82_code
def yX9_speeds : MethodName := ⟨RX9, "speeds", "(II)I"⟩
abbrev cX9_fainter : ByteArray := prog_11_method_83_code
def yX9_fainter : MethodName := ⟨RX9, "fainter", "(II)I"⟩
abbrev cX9_worseOf : ByteArray := prog_11_method_84_code
def yX9_worseOf : MethodName := ⟨RX9, "worseOf", "(IIII)I"⟩
abbrev cX9_cloud : ByteArray := prog_11_method_85_code
def yX9_cloud : MethodName := ⟨RX9, "cloud", "(II)I"⟩
abbrev cX9_tellParts : ByteArray := prog_11_method_86_code
def yX9_tellParts : MethodName := ⟨RX9, "tellParts", "(JJ)I"⟩
abbrev cX9_layAsleep : ByteArray := prog_11_method_87_code
def yX9_layAsleep : MethodName := ⟨RX9, "layAsleep", "(III)V"⟩
abbrev cX9_waysOf : ByteArray := prog_11_method_88_code
def yX9_waysOf : MethodName := ⟨RX9, "waysOf", "(III)J"⟩
abbrev cX9_tellAsleep : ByteArray := prog_11_method_89_code
def yX9_tellAsleep : MethodName := ⟨RX9, "tellAsleep", "(IIIZ)I"⟩
abbrev cX9_mid : ByteArray := prog_11_method_90_code
def yX9_mid : MethodName := ⟨RX9, "mid", "(III)I"⟩
abbrev cX9_odds : ByteArray := prog_11_method_91_code
def yX9_odds : MethodName := ⟨RX9, "odds", "(III)I"⟩
abbrev cX9_lots : ByteArray := prog_11_method_92_code
def yX9_lots : MethodName := ⟨RX9, "lots", "(II)I"⟩
abbrev cX9_asked : ByteArray := prog_11_method_93_code
def yX9_asked : MethodName := ⟨RX9, "asked", "()I"⟩
abbrev cX9_upper : ByteArray := prog_11_method_94_code
def yX9_upper : MethodName := ⟨RX9, "upper", "()J"⟩
abbrev cX9_lower : ByteArray := prog_11_method_95_code
def yX9_lower : MethodName := ⟨RX9, "lower", "()J"⟩
abbrev cX9_kindMany : ByteArray := prog_11_method_96_code
def yX9_kindMany : MethodName := ⟨RX9, "kindMany", "(I)I"⟩
abbrev cX9_thereOf : ByteArray := prog_11_method_97_code
def yX9_thereOf : MethodName := ⟨RX9, "thereOf", "(I)I"⟩
abbrev cX9_countOf : ByteArray := prog_11_method_98_code
def yX9_countOf : MethodName := ⟨RX9, "countOf", "(I)I"⟩
abbrev cX9_count : ByteArray := prog_11_method_99_code
def yX9_count : MethodName := ⟨RX9, "count", "(I)I"⟩
abbrev cX9_finding : ByteArray := prog_11_method_100_code
def yX9_finding : MethodName := ⟨RX9, "finding", "()I"⟩
abbrev cX9_findings : ByteArray := prog_11_method_101_code
def yX9_findings : MethodName := ⟨RX9, "findings", "(I)I"⟩
abbrev cX9_digest : ByteArray := prog_11_method_102_code
def yX9_digest : MethodName := ⟨RX9, "digest", "()J"⟩
def RJ6 : String := "java/lang/Integer"
abbrev cJ6_bitCount_0f7a4 : ByteArray := prog_12_method_49_code
def yJ6_bitCount_0f7a4 : MethodName := ⟨RJ6, "bitCount", "(I)I"⟩
def RJ9 : String := "java/lang/Math"
abbrev cJ9_floorMod_7cf53 : ByteArray := prog_13_method_50_code
def yJ9_floorMod_7cf53 : MethodName := ⟨RJ9, "floorMod", "(II)I"⟩
abbrev cJ9_abs_0f7a4 : ByteArray := prog_13_method_59_code
def yJ9_abs_0f7a4 : MethodName := ⟨RJ9, "abs", "(I)I"⟩
abbrev cJ9_max_7cf53 : ByteArray := prog_13_method_65_code
def yJ9_max_7cf53 : MethodName := ⟨RJ9, "max", "(II)I"⟩
abbrev cJ9_min_7cf53 : ByteArray := prog_13_method_69_code
def yJ9_min_7cf53 : MethodName := ⟨RJ9, "min", "(II)I"⟩
def RJ10 : String := "java/lang/System"
def RJ7 : String := "java/util/Arrays"
abbrev cJ7_rangeCheck_23922 : ByteArray := prog_15_method_30_code
def yJ7_rangeCheck_23922 : MethodName := ⟨RJ7, "rangeCheck", "(III)V"⟩
abbrev cJ7_fill_d0a16 : ByteArray := prog_15_method_101_code
def yJ7_fill_d0a16 : MethodName := ⟨RJ7, "fill", "([JJ)V"⟩
abbrev cJ7_fill_53178 : ByteArray := prog_15_method_103_code
def yJ7_fill_53178 : MethodName := ⟨RJ7, "fill", "([II)V"⟩
abbrev cJ7_fill_fda19 : ByteArray := prog_15_method_104_code
def yJ7_fill_fda19 : MethodName := ⟨RJ7, "fill", "([IIII)V"⟩
def RL : String := "DomeSlitLaw"
abbrev cL_law : ByteArray := code
def yL_law : MethodName := ⟨RL, "law", "([I)Z"⟩
abbrev vwCl : List vw_C := [(RX0, TX0, 4), (RX1, TX1, 4), (RX2, TX2, 2), (RX3, TX3, 5), (RX4, TX4, 6), (RX5, TX5, 4), (RX6, TX6, 2), (RX7, TX7, 1), (RX8, TX8, 17), (RX9, TX9, 33)]
end
section
/-! A small machine of our own over the abstract heap: a step of a method is a function (x_fun); a run goes by fuel (x_run), a call by depth (x_ev). -/
abbrev XE : Type := Instr × Nat × Nat × Nat × Nat × Nat
abbrev XM : Type := MethodName × ByteArray × Nat × Option FieldType × List XE
abbrev XH : Type := List va_E
abbrev XL : Type := List (Option Value)
abbrev XX : Type := Nat × (Nat → Int32)
abbrev XO : Type := (Nat × XL × List Value × XH) ⊕ ((Option Value × XH) ⊕ (Nat × List Value × List Value))
def x_let (j : Nat) : Int32 := match j with
  | 0 => 115
  | 1 => 108
  | 2 => 104
  | 3 => 118
  | 4 => 112
  | _ => 102
def x_ro (X : XX) (a : Nat) : Option (Nat × (Nat → Int32)) := if a = 1000 then some X else if a = 1001 then some (6, x_let) else none
def x_ld (L : XL) (i : Nat) : Option Value := match L[i]? with
  | some (some v) => some v
  | _ => none
def x_clr (L : XL) (i : Nat) : XL := match i with
  | 0 => L
  | i + 1 => match L[i]? with
    | some (some v) => if v.category = 2 then L.set i none else L
    | _ => L
def x_st1 (L : XL) (i : Nat) (v : Value) : Option XL := if i < L.length then some ((x_clr L i).set i (some v)) else none
def x_st2 (L : XL) (i : Nat) (v : Value) : Option XL := if i + 1 < L.length then some (((x_clr L i).set (i + 1) none).set i (some v)) else none
def x_nx (n : Nat) (L : XL) (h : XH) (o : Option (List Value)) : Option XO := match o with
  | some st => some (.inl (n, L, st, h))
  | none => none
def x_sx (n : Nat) (st : List Value) (h : XH) (o : Option XL) : Option XO := match o with
  | some L => some (.inl (n, L, st, h))
  | none => none
def x_bI (f : Int32 → Int32 → Int32) (st : List Value) : Option (List Value) := match st with
  | .int y :: .int x :: r => some (.int (f x y) :: r)
  | _ => none
def x_dI (f : Int32 → Int32 → Int32) (st : List Value) : Option (List Value) := match st with
  | .int y :: .int x :: r => if y = 0 then none else some (.int (f x y) :: r)
  | _ => none
def x_bL (f : Int64 → Int64 → Int64) (st : List Value) : Option (List Value) := match st with
  | .long y :: .long x :: r => some (.long (f x y) :: r)
  | _ => none
def x_dL (f : Int64 → Int64 → Int64) (st : List Value) : Option (List Value) := match st with
  | .long y :: .long x :: r => if y = 0 then none else some (.long (f x y) :: r)
  | _ => none
def x_uI (f : Int32 → Value) (st : List Value) : Option (List Value) := match st with
  | .int x :: r => some (f x :: r)
  | _ => none
def x_uL (f : Int64 → Value) (st : List Value) : Option (List Value) := match st with
  | .long x :: r => some (f x :: r)
  | _ => none
def x_isI : Value → Bool
  | .int _ => true
  | _ => false
def x_isL : Value → Bool
  | .long _ => true
  | _ => false
def x_isA : Value → Bool
  | .ref _ => true
  | .null => true
  | _ => false
def x_lc (p : Value → Bool) (L : XL) (i : Nat) (st : List Value) : Option (List Value) := match x_ld L i with
  | some v => if p v = true then some (v :: st) else none
  | none => none
def x_cI (n : Nat) (L : XL) (i : Nat) (st : List Value) (h : XH) : Option XO := match st with
  | .int x :: r => x_sx n r h (x_st1 L i (.int x))
  | _ => none
def x_cL (n : Nat) (L : XL) (i : Nat) (st : List Value) (h : XH) : Option XO := match st with
  | .long x :: r => x_sx n r h (x_st2 L i (.long x))
  | _ => none
def x_cA (n : Nat) (L : XL) (i : Nat) (st : List Value) (h : XH) : Option XO := match st with
  | .ref x :: r => x_sx n r h (x_st1 L i (.ref x))
  | .null :: r => x_sx n r h (x_st1 L i .null)
  | _ => none
def x_cnd (c : Jvm.ClassFile.Cond) (x y : Int32) : Prop := match c with
  | .eq => x = y
  | .ne => ¬ x = y
  | .lt => x < y
  | .ge => y ≤ x
  | .gt => y < x
  | .le => x ≤ y
def x_cdc (c : Jvm.ClassFile.Cond) (x y : Int32) : Bool := match c with
  | .eq => decide (x = y)
  | .ne => decide (¬ x = y)
  | .lt => decide (x < y)
  | .ge => decide (y ≤ x)
  | .gt => decide (y < x)
  | .le => decide (x ≤ y)
theorem x_cdc_iff (c : Jvm.ClassFile.Cond) (x y : Int32) : x_cdc c x y = true ↔ x_cnd c x y := by
  cases c <;> simp [x_cdc, x_cnd]
def x_tgt (pc : Nat) (off : Int) : Option Nat := if (pc : Int) + off < 0 then none else some ((pc : Int) + off).toNat
def x_sw (pc : Nat) (d lo hi : Int) (offs : Array Int) (x : Int32) : Option Nat :=
  if x.toInt < lo ∨ hi < x.toInt then x_tgt pc d else match offs[(x.toInt - lo).toNat]? with
    | some off => x_tgt pc off
    | none => none
/-- the fields' types, by class -/
def x_fts : List (List FieldType) := [[.object "DomeSlit$Slit", .object "DomeSlit$View", .array .int, .array .int], [.int, .int, .int, .int], [.array .int, .int], [.array .int, .int, .int, .int, .int], [.array .int, .int, .int, .int, .int, .boolean], [.object "DomeSlit$View", .array .long, .array .long, .long], [.int, .int], [.array .int], [.array (.object "DomeSlit$Line"), .array (.object "DomeSlit$Line"), .object "DomeSlit$Reader", .array (.object "DomeSlit$Light"), .object "DomeSlit$Light", .object "DomeSlit$Slit", .object "DomeSlit$Night", .array (.object "DomeSlit$Night"), .object "DomeSlit$View", .object "DomeSlit$Follower", .object "DomeSlit$Sleeper", .array .int, .int, .int, .int, .long, .long], [.array .int, .int, .int, .int, .array .int, .array .int, .array .int, .array .int, .array .int, .array .int, .array .int, .array .int, .int, .long, .long, .int, .array .int, .int, .int, .int, .int, .int, .array .int, .int, .array .int, .array .int, .array .int, .array .int, .array .int, .array .int, .array .int, .int, .boolean]]
def x_ft (ci k : Nat) : Option FieldType := match x_fts[ci]? with
  | some l => l[k]?
  | none => none
def x_def (ty : FieldType) : Value := match ty with
  | .long => .long 0
  | .object _ => .null
  | .array _ => .null
  | _ => .int 0
/-- which class's objects an array of references holds -/
def x_acl (t : Nat) : Option Nat := match t with
  | 2 => some 2
  | 3 => some 1
  | 4 => some 3
  | _ => none
def x_fin (ci k : Nat) : Bool := match vwCl[ci]? with
  | some q => (q.2.1 k).2.2.2
  | none => false
def x_get (n : Nat) (L : XL) (st : List Value) (h : XH) (ci k : Nat) : Option XO := match st with
  | .ref a :: r => match h[a]? with
    | some (.inr (c, fs)) => if c = ci then x_nx n L h ((fs[k]?).map (fun v => v :: r)) else none
    | _ => none
  | _ => none
def x_put (init : Bool) (n : Nat) (L : XL) (st : List Value) (h : XH) (ci k : Nat) : Option XO := match st with
  | v :: .ref a :: r => match h[a]? with
    | some (.inr (c, fs)) => match x_ft ci k with
      | some ty => if c = ci ∧ k < fs.length ∧ fits ty v = true ∧ (x_fin ci k = true → init = true) then some (.inl (n, L, r, h.set a (.inr (c, fs.set k v)))) else none
      | none => none
    | _ => none
  | _ => none
def x_iald (X : XX) (n : Nat) (L : XL) (st : List Value) (h : XH) : Option XO := match st with
  | .int i :: .ref a :: r => match x_ro X a with
    | some q => if i < 0 ∨ q.1 ≤ i.toNatClampNeg then none else some (.inl (n, L, .int (q.2 i.toNatClampNeg) :: r, h))
    | none => match h[a]? with
      | some (.inl (0, m, .inl f)) => if i < 0 ∨ m ≤ i.toNatClampNeg then none else some (.inl (n, L, .int (f i.toNatClampNeg) :: r, h))
      | _ => none
  | _ => none
def x_iast (n : Nat) (L : XL) (st : List Value) (h : XH) : Option XO := match st with
  | .int x :: .int i :: .ref a :: r => match h[a]? with
      | some (.inl (0, m, .inl f)) => if i < 0 ∨ m ≤ i.toNatClampNeg then none else some (.inl (n, L, r, h.set a (.inl (0, m, .inl (upd f i.toNatClampNeg x)))))
      | _ => none
  | _ => none
def x_lald (n : Nat) (L : XL) (st : List Value) (h : XH) : Option XO := match st with
  | .int i :: .ref a :: r => match h[a]? with
      | some (.inl (1, m, .inr (.inl f))) => if i < 0 ∨ m ≤ i.toNatClampNeg then none else some (.inl (n, L, .long (f i.toNatClampNeg) :: r, h))
      | _ => none
  | _ => none
def x_last (n : Nat) (L : XL) (st : List Value) (h : XH) : Option XO := match st with
  | .long x :: .int i :: .ref a :: r => match h[a]? with
      | some (.inl (1, m, .inr (.inl f))) => if i < 0 ∨ m ≤ i.toNatClampNeg then none else some (.inl (n, L, r, h.set a (.inl (1, m, .inr (.inl (vp_updL f i.toNatClampNeg x))))))
      | _ => none
  | _ => none
def x_aald (n : Nat) (L : XL) (st : List Value) (h : XH) : Option XO := match st with
  | .int i :: .ref a :: r => match h[a]? with
      | some (.inl (t, m, .inr (.inr (.inr (.inr f))))) => if i < 0 ∨ m ≤ i.toNatClampNeg ∨ (x_acl t).isNone = true then none else some (.inl (n, L, va_rf (f i.toNatClampNeg) :: r, h))
      | _ => none
  | _ => none
def x_aast (n : Nat) (L : XL) (st : List Value) (h : XH) : Option XO := match st with
  | .ref v :: .int i :: .ref a :: r => match h[a]? with
      | some (.inl (t, m, .inr (.inr (.inr (.inr f))))) => match h[v]? with
        | some (.inr (c, _)) => if i < 0 ∨ m ≤ i.toNatClampNeg ∨ ¬ x_acl t = some c then none else some (.inl (n, L, r, h.set a (.inl (t, m, .inr (.inr (.inr (.inr (va_up f i.toNatClampNeg (some v)))))))))
        | _ => none
      | _ => none
  | _ => none
def x_alen (X : XX) (n : Nat) (L : XL) (st : List Value) (h : XH) : Option XO := match st with
  | .ref a :: r => match x_ro X a with
    | some q => some (.inl (n, L, .int (Int32.ofNat q.1) :: r, h))
    | none => match h[a]? with
      | some (.inl (t, m, _)) => if t < 5 then some (.inl (n, L, .int (Int32.ofNat m) :: r, h)) else none
      | _ => none
  | _ => none
def x_newa (n : Nat) (L : XL) (st : List Value) (h : XH) (a0 : Nat → va_E) : Option XO := match st with
  | .int i :: r => if i < 0 ∨ 1000000 < i.toNatClampNeg ∨ 1000 ≤ h.length then none else some (.inl (n, L, .ref h.length :: r, h ++ [a0 i.toNatClampNeg]))
  | _ => none
def x_newo (n : Nat) (L : XL) (st : List Value) (h : XH) (ci : Nat) : Option XO := match x_fts[ci]? with
  | some l => if 1000 ≤ h.length then none else some (.inl (n, L, .ref h.length :: st, h ++ [.inr (ci, l.map x_def)]))
  | none => none
def x_cpy (n : Nat) (L : XL) (st : List Value) (h : XH) : Option XO := match st with
  | .int k :: .int dp :: .ref a1 :: .int sp :: .ref a0 :: r => match h[a0]? with
    | some (.inl (0, m0, .inl f)) => match h[a1]? with
      | some (.inl (0, m1, .inl g)) => if sp < 0 ∨ dp < 0 ∨ k < 0 ∨ m0 < sp.toNatClampNeg + k.toNatClampNeg ∨ m1 < dp.toNatClampNeg + k.toNatClampNeg ∨ 8 < (r.map fun v => v.category).sum then none else some (.inl (n, L, r, h.set a1 (.inl (0, m1, .inl (va_cpy f g sp.toNatClampNeg dp.toNatClampNeg k.toNatClampNeg)))))
      | _ => none
    | _ => none
  | _ => none
def x_call (μ n : Nat) (st : List Value) : Option XO := if st.length < n ∨ 8 < ((st.drop n).map fun v => v.category).sum then none else some (.inr (.inr (μ, (st.take n).reverse, st.drop n)))
def x_oin (n : Nat) (L : XL) (st : List Value) (h : XH) : Option XO := match st with
  | .ref _ :: r => if 8 < (r.map fun v => v.category).sum then none else some (.inl (n, L, r, h))
  | _ => none
def x_callV (μ n ci : Nat) (st : List Value) (h : XH) : Option XO := match st[n]? with
  | some (.ref a) => match h[a]? with
    | some (.inr (c, _)) => if c = ci then x_call μ (n + 1) st else none
    | _ => none
  | _ => none
def x_callI (μ n : Nat) (st : List Value) : Option XO := match st[n]? with
  | some (.ref _) => x_call μ (n + 1) st
  | _ => none
def x_dup (st : List Value) : Option (List Value) := match st with
  | v :: r => if v.category = 1 then some (v :: v :: r) else none
  | _ => none
def x_dup2 (st : List Value) : Option (List Value) := match st with
  | v :: w :: r => if v.category = 1 ∧ w.category = 1 then some (v :: w :: v :: w :: r) else none
  | _ => none
def x_pop (st : List Value) : Option (List Value) := match st with
  | v :: r => if v.category = 1 then some r else none
  | _ => none
def x_ret (ty : Option FieldType) (st : List Value) (h : XH) : Option XO := match ty, st with
  | some t, [.int v] => if narrow t (.int v) = .int v then some (.inr (.inl (some (.int v), h))) else none
  | _, _ => none
def x_retL (ty : Option FieldType) (st : List Value) (h : XH) : Option XO := match ty, st with
  | some .long, [.long v] => some (.inr (.inl (some (.long v), h)))
  | _, _ => none
def x_retA (ty : Option FieldType) (st : List Value) (h : XH) : Option XO := match ty, st with
  | some (.object _), [.ref v] => some (.inr (.inl (some (.ref v), h)))
  | some (.object _), [.null] => some (.inr (.inl (some .null, h)))
  | _, _ => none
def x_retV (ty : Option FieldType) (st : List Value) (h : XH) : Option XO := match ty, st with
  | none, [] => some (.inr (.inl (none, h)))
  | _, _ => none
def x_inc (n : Nat) (L : XL) (st : List Value) (h : XH) (i : Nat) (k : Int) : Option XO := match x_ld L i with
  | some (.int x) => x_sx n st h (x_st1 L i (.int (x + Int32.ofInt k)))
  | _ => none
def x_fun (X : XX) (M : XM) (pc : Nat) (e : XE) (L : XL) (st : List Value) (h : XH) : Option XO := match e with
  | (ins, n, a, b, ci, _) => match ins with
    | .aconst_null => some (.inl (n, L, .null :: st, h))
    | .iconst k => some (.inl (n, L, .int (Int32.ofInt k) :: st, h))
    | .bipush k => some (.inl (n, L, .int (Int8.ofInt k).toInt32 :: st, h))
    | .sipush k => some (.inl (n, L, .int (Int16.ofInt k).toInt32 :: st, h))
    | .lconst k => some (.inl (n, L, .long (Int64.ofNat (k : Nat)) :: st, h))
    | .ldc _ => some (.inl (n, L, .int (Int32.ofNat a) :: st, h))
    | .ldc_w _ => some (.inl (n, L, .int (Int32.ofNat a) :: st, h))
    | .ldc2_w _ => some (.inl (n, L, .long (Int64.ofNat a) :: st, h))
    | .iload i => x_nx n L h (x_lc x_isI L i st)
    | .iload_n i => x_nx n L h (x_lc x_isI L (i : Nat) st)
    | .lload i => x_nx n L h (x_lc x_isL L i st)
    | .lload_n i => x_nx n L h (x_lc x_isL L (i : Nat) st)
    | .aload i => x_nx n L h (x_lc x_isA L i st)
    | .aload_n i => x_nx n L h (x_lc x_isA L (i : Nat) st)
    | .istore i => x_cI n L i st h
    | .istore_n i => x_cI n L (i : Nat) st h
    | .lstore i => x_cL n L i st h
    | .lstore_n i => x_cL n L (i : Nat) st h
    | .astore i => x_cA n L i st h
    | .astore_n i => x_cA n L (i : Nat) st h
    | .iinc i k => x_inc n L st h i k
    | .iadd => x_nx n L h (x_bI (fun x y => x + y) st)
    | .isub => x_nx n L h (x_bI (fun x y => x - y) st)
    | .imul => x_nx n L h (x_bI (fun x y => x * y) st)
    | .iand => x_nx n L h (x_bI (fun x y => x &&& y) st)
    | .ior => x_nx n L h (x_bI (fun x y => x ||| y) st)
    | .ixor => x_nx n L h (x_bI (fun x y => x ^^^ y) st)
    | .ishl => x_nx n L h (x_bI (fun x y => x <<< (y &&& 31)) st)
    | .ishr => x_nx n L h (x_bI (fun x y => x >>> (y &&& 31)) st)
    | .iushr => x_nx n L h (x_bI (fun x y => (x.toUInt32 >>> (y.toUInt32 &&& Int32.toUInt32 31)).toInt32) st)
    | .idiv => x_nx n L h (x_dI (fun x y => x / y) st)
    | .irem => x_nx n L h (x_dI (fun x y => x - x / y * y) st)
    | .ineg => x_nx n L h (x_uI (fun x => .int (-x)) st)
    | .i2l => x_nx n L h (x_uI (fun x => .long x.toInt64) st)
    | .i2b => x_nx n L h (x_uI (fun x => .int x.toInt8.toInt32) st)
    | .l2i => x_nx n L h (x_uL (fun x => .int x.toInt32) st)
    | .ladd => x_nx n L h (x_bL (fun x y => x + y) st)
    | .lmul => x_nx n L h (x_bL (fun x y => x * y) st)
    | .ldiv => x_nx n L h (x_dL (fun x y => x / y) st)
    | .lrem => x_nx n L h (x_dL (fun x y => x - x / y * y) st)
    | .lcmp => match st with
      | .long y :: .long x :: r => some (.inl (n, L, .int (lg_cmp x y) :: r, h))
      | _ => none
    | .dup => x_nx n L h (x_dup st)
    | .dup2 => x_nx n L h (x_dup2 st)
    | .pop => x_nx n L h (x_pop st)
    | .ifCond c _ => match st with
      | .int x :: r => some (.inl (if x_cdc c x 0 = true then a else n, L, r, h))
      | _ => none
    | .if_icmp c _ => match st with
      | .int y :: .int x :: r => some (.inl (if x_cdc c x y = true then a else n, L, r, h))
      | _ => none
    | .goto _ => some (.inl (a, L, st, h))
    | .ifnull _ => match st with
      | .ref _ :: r => some (.inl (n, L, r, h))
      | .null :: r => some (.inl (a, L, r, h))
      | _ => none
    | .ifnonnull _ => match st with
      | .ref _ :: r => some (.inl (a, L, r, h))
      | .null :: r => some (.inl (n, L, r, h))
      | _ => none
    | .tableswitch d lo hi offs => match st with
      | .int x :: r => match x_sw pc d lo hi offs x with
        | some t => some (.inl (t, L, r, h))
        | none => none
      | _ => none
    | .iaload => x_iald X n L st h
    | .iastore => x_iast n L st h
    | .laload => x_lald n L st h
    | .lastore => x_last n L st h
    | .aaload => x_aald n L st h
    | .aastore => x_aast n L st h
    | .arraylength => x_alen X n L st h
    | .newarray .int => x_newa n L st h (fun m => .inl (0, m, .inl (fun _ => 0)))
    | .newarray .long => x_newa n L st h (fun m => .inl (1, m, .inr (.inl (fun _ => 0))))
    | .anewarray _ => if (x_acl a).isNone = true then none else x_newa n L st h (fun m => .inl (a, m, .inr (.inr (.inr (.inr (fun _ => none))))))
    | .new _ => x_newo n L st h ci
    | .getfield _ => x_get n L st h ci b
    | .putfield _ => x_put (M.1.name == "<init>") n L st h ci b
    | .getstatic _ => some (.inl (n, L, .ref 1001 :: st, h))
    | .invokestatic _ => if a = 9999 then x_cpy n L st h else x_call a b st
    | .invokespecial _ => if a = 9998 then x_oin n L st h else x_callI a b st
    | .invokevirtual _ => x_callV a b ci st h
    | .ireturn => x_ret M.2.2.2.1 st h
    | .lreturn => x_retL M.2.2.2.1 st h
    | .areturn => x_retA M.2.2.2.1 st h
    | .return_ => x_retV M.2.2.2.1 st h
    | _ => none
def x_run (X : XX) (call : Nat → List Value → XH → Option Value → XH → Prop) (M : XM) : Nat → Nat → XL → List Value → XH → (Option Value → XH → Prop) → Prop
  | 0, _, _, _, _, _ => False
  | n + 1, pc, L, st, h, P => ∃ e, M.2.2.2.2[pc]? = some e ∧ match x_fun X M pc e L st h with
    | some (.inl q) => x_run X call M n q.1 q.2.1 q.2.2.1 q.2.2.2 P
    | some (.inr (.inl q)) => P q.1 q.2
    | some (.inr (.inr q)) => ∃ r1 h1, call q.1 q.2.1 h r1 h1 ∧ x_run X call M n e.2.1 L (r1.toList ++ q.2.2) h1 P
    | none => False
def x_exp (v : Value) : List (Option Value) := if v.category = 2 then [some v, none] else [some v]
def x_ent (args : List Value) (maxL : Nat) : XL := args.flatMap x_exp ++ List.replicate (maxL - (args.flatMap x_exp).length) none
def x_ev (X : XX) (T : List XM) : Nat → Nat → List Value → XH → Option Value → XH → Prop
  | 0, _, _, _, _, _ => False
  | d + 1, μ, args, h, r, h' => ∃ M n, T[μ]? = some M ∧ (args.flatMap x_exp).length ≤ M.2.2.1 ∧ x_run X (x_ev X T d) M n 0 (x_ent args M.2.2.1) [] h (fun r' h'' => r' = r ∧ h'' = h')
/-- the judgement in which methods are proved -/
def Wp (X : XX) (T : List XM) (d : Nat) (M : XM) (pc : Nat) (L : XL) (st : List Value) (h : XH) (P : Option Value → XH → Prop) : Prop := ∃ n, x_run X (x_ev X T d) M n pc L st h P
end
section
def x_0 : XE := (.nop, 0, 0, 0, 0, 0)
def mX0_init : XM := (yX0_init, cX0_init, 3, none, [(.aload_n 0, 1, 0, 0, 0, 0), (.invokespecial 5, 4, 9998, 0, 0, 207), x_0, x_0, (.aload_n 0, 5, 0, 0, 0, 0), (.sipush 984, 8, 0, 0, 0, 0), x_0, x_0, (.newarray .int, 10, 0, 0, 0, 0), x_0, (.putfield 11, 13, 0, 2, 0, 210), x_0, x_0, (.aload_n 0, 14, 0, 0, 0, 0), (.sipush 984, 17, 0, 0, 0, 0), x_0, x_0, (.newarray .int, 19, 0, 0, 0, 0), x_0, (.putfield 15, 22, 0, 3, 0, 211), x_0, x_0, (.aload_n 0, 23, 0, 0, 0, 0), (.aload_n 1, 24, 0, 0, 0, 0), (.putfield 18, 27, 0, 0, 0, 208), x_0, x_0, (.aload_n 0, 28, 0, 0, 0, 0), (.aload_n 2, 29, 0, 0, 0, 0), (.putfield 22, 32, 0, 1, 0, 209), x_0, x_0, (.return_, 33, 0, 0, 0, 0)])
def mX0_least : XM := (yX0_least, cX0_least, 8, (some (.int)), [(.aload_n 0, 1, 0, 0, 0, 0), (.getfield 11, 4, 0, 2, 0, 210), x_0, x_0, (.iload_n 2, 5, 0, 0, 0, 0), (.bipush 24, 7, 0, 0, 0, 0), x_0, (.imul, 8, 0, 0, 0, 0), (.iload_n 2, 9, 0, 0, 0, 0), (.iconst 1, 10, 0, 0, 0, 0), (.iadd, 11, 0, 0, 0, 0), (.bipush 24, 13, 0, 0, 0, 0), x_0, (.imul, 14, 0, 0, 0, 0), (.iconst 0, 15, 0, 0, 0, 0), (.invokestatic 26, 18, 258, 4, 0, 690), x_0, x_0, (.iload_n 2, 19, 0, 0, 0, 0), (.iconst 1, 20, 0, 0, 0, 0), (.isub, 21, 0, 0, 0, 0), (.istore 4, 23, 0, 0, 0, 0), x_0, (.iload 4, 25, 0, 0, 0, 0), x_0, (.ifCond .lt 79, 28, 104, 0, 0, 0), x_0, x_0, (.iconst 0, 29, 0, 0, 0, 0), (.istore 5, 31, 0, 0, 0, 0), x_0, (.iload 5, 33, 0, 0, 0, 0), x_0, (.bipush 24, 35, 0, 0, 0, 0), x_0, (.if_icmp .ge 63, 38, 98, 0, 0, 0), x_0, x_0, (.ldc 32, 40, 536870912, 0, 0, 696), x_0, (.istore 6, 42, 0, 0, 0, 0), x_0, (.bipush (-6), 44, 0, 0, 0, 0), x_0, (.istore 7, 46, 0, 0, 0, 0), x_0, (.iload 7, 48, 0, 0, 0, 0), x_0, (.bipush 6, 50, 0, 0, 0, 0), x_0, (.if_icmp .gt 27, 53, 77, 0, 0, 0), x_0, x_0, (.iload 6, 55, 0, 0, 0, 0), x_0, (.aload_n 0, 56, 0, 0, 0, 0), (.iload 4, 58, 0, 0, 0, 0), x_0, (.iload 5, 60, 0, 0, 0, 0), x_0, (.iload 7, 62, 0, 0, 0, 0), x_0, (.iload_n 3, 63, 0, 0, 0, 0), (.invokevirtual 33, 66, 3, 4, 0, 697), x_0, x_0, (.invokestatic 37, 69, 254, 2, 0, 708), x_0, x_0, (.istore 6, 71, 0, 0, 0, 0), x_0, (.iinc 7 1, 74, 0, 0, 0, 0), x_0, x_0, (.goto (-28), 77, 46, 0, 0, 0), x_0, x_0, (.aload_n 0, 78, 0, 0, 0, 0), (.getfield 11, 81, 0, 2, 0, 210), x_0, x_0, (.iload 4, 83, 0, 0, 0, 0), x_0, (.bipush 24, 85, 0, 0, 0, 0), x_0, (.imul, 86, 0, 0, 0, 0), (.iload 5, 88, 0, 0, 0, 0), x_0, (.iadd, 89, 0, 0, 0, 0), (.iload 6, 91, 0, 0, 0, 0), x_0, (.iastore, 92, 0, 0, 0, 0), (.iinc 5 1, 95, 0, 0, 0, 0), x_0, x_0, (.goto (-64), 98, 31, 0, 0, 0), x_0, x_0, (.iinc 4 (-1), 101, 0, 0, 0, 0), x_0, x_0, (.goto (-78), 104, 23, 0, 0, 0), x_0, x_0, (.aload_n 0, 105, 0, 0, 0, 0), (.getfield 11, 108, 0, 2, 0, 210), x_0, x_0, (.iload_n 1, 109, 0, 0, 0, 0), (.invokestatic 43, 112, 123, 1, 8, 701), x_0, x_0, (.iaload, 113, 0, 0, 0, 0), (.istore 4, 115, 0, 0, 0, 0), x_0, (.iload 4, 117, 0, 0, 0, 0), x_0, (.ldc 32, 119, 536870912, 0, 0, 696), x_0, (.if_icmp .ge 8, 122, 127, 0, 0, 0), x_0, x_0, (.iload 4, 124, 0, 0, 0, 0), x_0, (.goto 5, 127, 129, 0, 0, 0), x_0, x_0, (.bipush (-9), 129, 0, 0, 0, 0), x_0, (.ireturn, 130, 0, 0, 0, 0)])
def mX0_writeTurns : XM := (yX0_writeTurns, cX0_writeTurns, 7, none, [(.aload_n 3, 1, 0, 0, 0, 0), (.iload_n 2, 2, 0, 0, 0, 0), (.iconst 0, 3, 0, 0, 0, 0), (.invokevirtual 47, 6, 29, 2, 2, 714), x_0, x_0, (.iload_n 1, 7, 0, 0, 0, 0), (.invokestatic 43, 10, 123, 1, 8, 701), x_0, x_0, (.istore 4, 12, 0, 0, 0, 0), x_0, (.iconst 0, 13, 0, 0, 0, 0), (.istore 5, 15, 0, 0, 0, 0), x_0, (.iload 5, 17, 0, 0, 0, 0), x_0, (.iload_n 2, 18, 0, 0, 0, 0), (.if_icmp .ge 71, 21, 89, 0, 0, 0), x_0, x_0, (.bipush (-6), 23, 0, 0, 0, 0), x_0, (.istore 6, 25, 0, 0, 0, 0), x_0, (.iload 6, 27, 0, 0, 0, 0), x_0, (.bipush 6, 29, 0, 0, 0, 0), x_0, (.if_icmp .ge 36, 32, 65, 0, 0, 0), x_0, x_0, (.aload_n 0, 33, 0, 0, 0, 0), (.iload 5, 35, 0, 0, 0, 0), x_0, (.iload 4, 37, 0, 0, 0, 0), x_0, (.iload 6, 39, 0, 0, 0, 0), x_0, (.iconst 0, 40, 0, 0, 0, 0), (.invokevirtual 33, 43, 3, 4, 0, 697), x_0, x_0, (.aload_n 0, 44, 0, 0, 0, 0), (.getfield 11, 47, 0, 2, 0, 210), x_0, x_0, (.iload 5, 49, 0, 0, 0, 0), x_0, (.bipush 24, 51, 0, 0, 0, 0), x_0, (.imul, 52, 0, 0, 0, 0), (.iload 4, 54, 0, 0, 0, 0), x_0, (.iadd, 55, 0, 0, 0, 0), (.iaload, 56, 0, 0, 0, 0), (.if_icmp .eq 9, 59, 65, 0, 0, 0), x_0, x_0, (.iinc 6 1, 62, 0, 0, 0, 0), x_0, x_0, (.goto (-37), 65, 25, 0, 0, 0), x_0, x_0, (.aload_n 3, 66, 0, 0, 0, 0), (.iload 5, 68, 0, 0, 0, 0), x_0, (.iload 6, 70, 0, 0, 0, 0), x_0, (.invokevirtual 53, 73, 33, 2, 2, 715), x_0, x_0, (.iload 4, 75, 0, 0, 0, 0), x_0, (.iload 6, 77, 0, 0, 0, 0), x_0, (.iadd, 78, 0, 0, 0, 0), (.invokestatic 43, 81, 123, 1, 8, 701), x_0, x_0, (.istore 4, 83, 0, 0, 0, 0), x_0, (.iinc 5 1, 86, 0, 0, 0, 0), x_0, x_0, (.goto (-71), 89, 15, 0, 0, 0), x_0, x_0, (.return_, 90, 0, 0, 0, 0)])
def mX0_leastBehind : XM := (yX0_leastBehind, cX0_leastBehind, 7, (some (.int)), [(.iload_n 2, 1, 0, 0, 0, 0), (.iload_n 3, 2, 0, 0, 0, 0), (.iadd, 3, 0, 0, 0, 0), (.invokestatic 43, 6, 123, 1, 8, 701), x_0, x_0, (.istore 5, 8, 0, 0, 0, 0), x_0, (.aload_n 0, 9, 0, 0, 0, 0), (.getfield 22, 12, 0, 1, 0, 209), x_0, x_0, (.iload_n 1, 13, 0, 0, 0, 0), (.iload 5, 15, 0, 0, 0, 0), x_0, (.invokevirtual 56, 18, 78, 2, 7, 702), x_0, x_0, (.ifCond .ne 6, 21, 24, 0, 0, 0), x_0, x_0, (.ldc 32, 23, 536870912, 0, 0, 696), x_0, (.ireturn, 24, 0, 0, 0, 0), (.iload 4, 26, 0, 0, 0, 0), x_0, (.ifCond .eq 14, 29, 40, 0, 0, 0), x_0, x_0, (.iload_n 3, 30, 0, 0, 0, 0), (.invokestatic 61, 33, 252, 1, 0, 707), x_0, x_0, (.iconst 1, 34, 0, 0, 0, 0), (.invokestatic 37, 37, 254, 2, 0, 708), x_0, x_0, (.goto 12, 40, 49, 0, 0, 0), x_0, x_0, (.aload_n 0, 41, 0, 0, 0, 0), (.getfield 18, 44, 0, 0, 0, 208), x_0, x_0, (.iload_n 2, 45, 0, 0, 0, 0), (.iload_n 3, 46, 0, 0, 0, 0), (.invokevirtual 64, 49, 74, 2, 6, 709), x_0, x_0, (.istore 6, 51, 0, 0, 0, 0), x_0, (.ldc 32, 53, 536870912, 0, 0, 696), x_0, (.iload 6, 55, 0, 0, 0, 0), x_0, (.aload_n 0, 56, 0, 0, 0, 0), (.getfield 11, 59, 0, 2, 0, 210), x_0, x_0, (.iload_n 1, 60, 0, 0, 0, 0), (.iconst 1, 61, 0, 0, 0, 0), (.iadd, 62, 0, 0, 0, 0), (.bipush 24, 64, 0, 0, 0, 0), x_0, (.imul, 65, 0, 0, 0, 0), (.iload 5, 67, 0, 0, 0, 0), x_0, (.iadd, 68, 0, 0, 0, 0), (.iaload, 69, 0, 0, 0, 0), (.iadd, 70, 0, 0, 0, 0), (.invokestatic 37, 73, 254, 2, 0, 708), x_0, x_0, (.ireturn, 74, 0, 0, 0, 0)])
def mX0_mostWithin : XM := (yX0_mostWithin, cX0_mostWithin, 7, (some (.int)), [(.aload_n 0, 1, 0, 0, 0, 0), (.getfield 15, 4, 0, 3, 0, 211), x_0, x_0, (.iconst 0, 5, 0, 0, 0, 0), (.invokestatic 69, 8, 257, 2, 0, 728), x_0, x_0, (.iload_n 2, 9, 0, 0, 0, 0), (.iconst 1, 10, 0, 0, 0, 0), (.isub, 11, 0, 0, 0, 0), (.istore 4, 13, 0, 0, 0, 0), x_0, (.iload 4, 15, 0, 0, 0, 0), x_0, (.ifCond .lt 65, 18, 80, 0, 0, 0), x_0, x_0, (.aload_n 0, 19, 0, 0, 0, 0), (.getfield 11, 22, 0, 2, 0, 210), x_0, x_0, (.iconst 0, 23, 0, 0, 0, 0), (.invokestatic 69, 26, 257, 2, 0, 728), x_0, x_0, (.iconst 0, 27, 0, 0, 0, 0), (.istore 5, 29, 0, 0, 0, 0), x_0, (.iload 5, 31, 0, 0, 0, 0), x_0, (.bipush 24, 33, 0, 0, 0, 0), x_0, (.if_icmp .ge 37, 36, 70, 0, 0, 0), x_0, x_0, (.bipush (-6), 38, 0, 0, 0, 0), x_0, (.istore 6, 40, 0, 0, 0, 0), x_0, (.iload 6, 42, 0, 0, 0, 0), x_0, (.bipush 6, 44, 0, 0, 0, 0), x_0, (.if_icmp .gt 20, 47, 64, 0, 0, 0), x_0, x_0, (.aload_n 0, 48, 0, 0, 0, 0), (.iload 4, 50, 0, 0, 0, 0), x_0, (.iload 5, 52, 0, 0, 0, 0), x_0, (.iload 6, 54, 0, 0, 0, 0), x_0, (.iload_n 3, 55, 0, 0, 0, 0), (.invokevirtual 72, 58, 5, 4, 0, 729), x_0, x_0, (.iinc 6 1, 61, 0, 0, 0, 0), x_0, x_0, (.goto (-21), 64, 40, 0, 0, 0), x_0, x_0, (.iinc 5 1, 67, 0, 0, 0, 0), x_0, x_0, (.goto (-38), 70, 29, 0, 0, 0), x_0, x_0, (.aload_n 0, 71, 0, 0, 0, 0), (.invokevirtual 76, 74, 10, 0, 0, 734), x_0, x_0, (.iinc 4 (-1), 77, 0, 0, 0, 0), x_0, x_0, (.goto (-64), 80, 13, 0, 0, 0), x_0, x_0, (.aload_n 0, 81, 0, 0, 0, 0), (.getfield 15, 84, 0, 3, 0, 211), x_0, x_0, (.iload_n 1, 85, 0, 0, 0, 0), (.invokestatic 43, 88, 123, 1, 8, 701), x_0, x_0, (.bipush 41, 90, 0, 0, 0, 0), x_0, (.imul, 91, 0, 0, 0, 0), (.iload_n 3, 92, 0, 0, 0, 0), (.iadd, 93, 0, 0, 0, 0), (.iaload, 94, 0, 0, 0, 0), (.ireturn, 95, 0, 0, 0, 0)])
def mX0_raiseMost : XM := (yX0_raiseMost, cX0_raiseMost, 10, none, [(.iload_n 2, 1, 0, 0, 0, 0), (.iload_n 3, 2, 0, 0, 0, 0), (.iadd, 3, 0, 0, 0, 0), (.invokestatic 43, 6, 123, 1, 8, 701), x_0, x_0, (.istore 5, 8, 0, 0, 0, 0), x_0, (.aload_n 0, 9, 0, 0, 0, 0), (.getfield 18, 12, 0, 0, 0, 208), x_0, x_0, (.iload_n 2, 13, 0, 0, 0, 0), (.iload_n 3, 14, 0, 0, 0, 0), (.invokevirtual 64, 17, 74, 2, 6, 709), x_0, x_0, (.istore 6, 19, 0, 0, 0, 0), x_0, (.aload_n 0, 20, 0, 0, 0, 0), (.getfield 22, 23, 0, 1, 0, 209), x_0, x_0, (.iload_n 1, 24, 0, 0, 0, 0), (.iload 5, 26, 0, 0, 0, 0), x_0, (.invokevirtual 56, 29, 78, 2, 7, 702), x_0, x_0, (.istore 7, 31, 0, 0, 0, 0), x_0, (.iload 6, 33, 0, 0, 0, 0), x_0, (.istore 8, 35, 0, 0, 0, 0), x_0, (.iload 8, 37, 0, 0, 0, 0), x_0, (.iload 4, 39, 0, 0, 0, 0), x_0, (.if_icmp .gt 59, 42, 98, 0, 0, 0), x_0, x_0, (.iload 7, 44, 0, 0, 0, 0), x_0, (.aload_n 0, 45, 0, 0, 0, 0), (.getfield 15, 48, 0, 3, 0, 211), x_0, x_0, (.iload 5, 50, 0, 0, 0, 0), x_0, (.bipush 41, 52, 0, 0, 0, 0), x_0, (.imul, 53, 0, 0, 0, 0), (.iload 8, 55, 0, 0, 0, 0), x_0, (.iadd, 56, 0, 0, 0, 0), (.iload 6, 58, 0, 0, 0, 0), x_0, (.isub, 59, 0, 0, 0, 0), (.iaload, 60, 0, 0, 0, 0), (.iadd, 61, 0, 0, 0, 0), (.istore 9, 63, 0, 0, 0, 0), x_0, (.aload_n 0, 64, 0, 0, 0, 0), (.getfield 11, 67, 0, 2, 0, 210), x_0, x_0, (.iload_n 2, 68, 0, 0, 0, 0), (.bipush 41, 70, 0, 0, 0, 0), x_0, (.imul, 71, 0, 0, 0, 0), (.iload 8, 73, 0, 0, 0, 0), x_0, (.iadd, 74, 0, 0, 0, 0), (.aload_n 0, 75, 0, 0, 0, 0), (.getfield 11, 78, 0, 2, 0, 210), x_0, x_0, (.iload_n 2, 79, 0, 0, 0, 0), (.bipush 41, 81, 0, 0, 0, 0), x_0, (.imul, 82, 0, 0, 0, 0), (.iload 8, 84, 0, 0, 0, 0), x_0, (.iadd, 85, 0, 0, 0, 0), (.iaload, 86, 0, 0, 0, 0), (.iload 9, 88, 0, 0, 0, 0), x_0, (.invokestatic 79, 91, 253, 2, 0, 733), x_0, x_0, (.iastore, 92, 0, 0, 0, 0), (.iinc 8 1, 95, 0, 0, 0, 0), x_0, x_0, (.goto (-60), 98, 35, 0, 0, 0), x_0, x_0, (.return_, 99, 0, 0, 0, 0)])
def mX0_mostByCloud : XM := (yX0_mostByCloud, cX0_mostByCloud, 6, (some (.int)), [(.aload_n 0, 1, 0, 0, 0, 0), (.getfield 15, 4, 0, 3, 0, 211), x_0, x_0, (.iconst 0, 5, 0, 0, 0, 0), (.invokestatic 69, 8, 257, 2, 0, 728), x_0, x_0, (.iload_n 2, 9, 0, 0, 0, 0), (.iconst 1, 10, 0, 0, 0, 0), (.isub, 11, 0, 0, 0, 0), (.istore_n 3, 12, 0, 0, 0, 0), (.iload_n 3, 13, 0, 0, 0, 0), (.ifCond .lt 65, 16, 78, 0, 0, 0), x_0, x_0, (.iconst 0, 17, 0, 0, 0, 0), (.istore 4, 19, 0, 0, 0, 0), x_0, (.iload 4, 21, 0, 0, 0, 0), x_0, (.bipush 24, 23, 0, 0, 0, 0), x_0, (.if_icmp .ge 45, 26, 68, 0, 0, 0), x_0, x_0, (.iconst 0, 27, 0, 0, 0, 0), (.istore 5, 29, 0, 0, 0, 0), x_0, (.iload 5, 31, 0, 0, 0, 0), x_0, (.iconst 3, 32, 0, 0, 0, 0), (.if_icmp .ge 30, 35, 62, 0, 0, 0), x_0, x_0, (.aload_n 0, 36, 0, 0, 0, 0), (.getfield 11, 39, 0, 2, 0, 210), x_0, x_0, (.iload 4, 41, 0, 0, 0, 0), x_0, (.iconst 3, 42, 0, 0, 0, 0), (.imul, 43, 0, 0, 0, 0), (.iload 5, 45, 0, 0, 0, 0), x_0, (.iadd, 46, 0, 0, 0, 0), (.aload_n 0, 47, 0, 0, 0, 0), (.iload_n 3, 48, 0, 0, 0, 0), (.iload 4, 50, 0, 0, 0, 0), x_0, (.iload 5, 52, 0, 0, 0, 0), x_0, (.invokevirtual 82, 55, 7, 3, 0, 824), x_0, x_0, (.iastore, 56, 0, 0, 0, 0), (.iinc 5 1, 59, 0, 0, 0, 0), x_0, x_0, (.goto (-30), 62, 29, 0, 0, 0), x_0, x_0, (.iinc 4 1, 65, 0, 0, 0, 0), x_0, x_0, (.goto (-46), 68, 19, 0, 0, 0), x_0, x_0, (.aload_n 0, 69, 0, 0, 0, 0), (.invokevirtual 76, 72, 10, 0, 0, 734), x_0, x_0, (.iinc 3 (-1), 75, 0, 0, 0, 0), x_0, x_0, (.goto (-63), 78, 12, 0, 0, 0), x_0, x_0, (.aload_n 0, 79, 0, 0, 0, 0), (.getfield 15, 82, 0, 3, 0, 211), x_0, x_0, (.iload_n 1, 83, 0, 0, 0, 0), (.invokestatic 43, 86, 123, 1, 8, 701), x_0, x_0, (.iconst 3, 87, 0, 0, 0, 0), (.imul, 88, 0, 0, 0, 0), (.iload_n 2, 89, 0, 0, 0, 0), (.iconst 2, 90, 0, 0, 0, 0), (.idiv, 91, 0, 0, 0, 0), (.iconst 2, 92, 0, 0, 0, 0), (.invokestatic 37, 95, 254, 2, 0, 708), x_0, x_0, (.iadd, 96, 0, 0, 0, 0), (.iaload, 97, 0, 0, 0, 0), (.ireturn, 98, 0, 0, 0, 0)])
def mX0_mostBehindClouds : XM := (yX0_mostBehindClouds, cX0_mostBehindClouds, 8, (some (.int)), [(.iconst 0, 1, 0, 0, 0, 0), (.istore 4, 3, 0, 0, 0, 0), x_0, (.bipush (-2), 5, 0, 0, 0, 0), x_0, (.istore 5, 7, 0, 0, 0, 0), x_0, (.iload 5, 9, 0, 0, 0, 0), x_0, (.iconst 2, 10, 0, 0, 0, 0), (.if_icmp .gt 75, 13, 85, 0, 0, 0), x_0, x_0, (.iload_n 2, 14, 0, 0, 0, 0), (.iload 5, 16, 0, 0, 0, 0), x_0, (.iadd, 17, 0, 0, 0, 0), (.invokestatic 43, 20, 123, 1, 8, 701), x_0, x_0, (.istore 6, 22, 0, 0, 0, 0), x_0, (.aload_n 0, 23, 0, 0, 0, 0), (.getfield 22, 26, 0, 1, 0, 209), x_0, x_0, (.iload_n 1, 27, 0, 0, 0, 0), (.iload 6, 29, 0, 0, 0, 0), x_0, (.invokevirtual 56, 32, 78, 2, 7, 702), x_0, x_0, (.aload_n 0, 33, 0, 0, 0, 0), (.getfield 15, 36, 0, 3, 0, 211), x_0, x_0, (.iload 6, 38, 0, 0, 0, 0), x_0, (.iconst 3, 39, 0, 0, 0, 0), (.imul, 40, 0, 0, 0, 0), (.iload_n 3, 41, 0, 0, 0, 0), (.iadd, 42, 0, 0, 0, 0), (.iaload, 43, 0, 0, 0, 0), (.iadd, 44, 0, 0, 0, 0), (.istore 7, 46, 0, 0, 0, 0), x_0, (.iload_n 3, 47, 0, 0, 0, 0), (.ifCond .le 23, 50, 70, 0, 0, 0), x_0, x_0, (.iload 7, 52, 0, 0, 0, 0), x_0, (.aload_n 0, 53, 0, 0, 0, 0), (.getfield 15, 56, 0, 3, 0, 211), x_0, x_0, (.iload 6, 58, 0, 0, 0, 0), x_0, (.iconst 3, 59, 0, 0, 0, 0), (.imul, 60, 0, 0, 0, 0), (.iload_n 3, 61, 0, 0, 0, 0), (.iadd, 62, 0, 0, 0, 0), (.iconst 1, 63, 0, 0, 0, 0), (.isub, 64, 0, 0, 0, 0), (.iaload, 65, 0, 0, 0, 0), (.invokestatic 37, 68, 254, 2, 0, 708), x_0, x_0, (.istore 7, 70, 0, 0, 0, 0), x_0, (.iload 4, 72, 0, 0, 0, 0), x_0, (.iload 7, 74, 0, 0, 0, 0), x_0, (.invokestatic 79, 77, 253, 2, 0, 733), x_0, x_0, (.istore 4, 79, 0, 0, 0, 0), x_0, (.iinc 5 1, 82, 0, 0, 0, 0), x_0, x_0, (.goto (-75), 85, 7, 0, 0, 0), x_0, x_0, (.iload 4, 87, 0, 0, 0, 0), x_0, (.ireturn, 88, 0, 0, 0, 0)])
def mX0_leastOrder : XM := (yX0_leastOrder, cX0_leastOrder, 10, (some (.int)), [(.iconst 1, 1, 0, 0, 0, 0), (.iload_n 2, 2, 0, 0, 0, 0), (.iconst 5, 3, 0, 0, 0, 0), (.invokestatic 37, 6, 254, 2, 0, 708), x_0, x_0, (.ishl, 7, 0, 0, 0, 0), (.iconst 1, 8, 0, 0, 0, 0), (.isub, 9, 0, 0, 0, 0), (.istore 5, 11, 0, 0, 0, 0), x_0, (.aload_n 0, 12, 0, 0, 0, 0), (.getfield 11, 15, 0, 2, 0, 210), x_0, x_0, (.iconst 0, 16, 0, 0, 0, 0), (.iload 5, 18, 0, 0, 0, 0), x_0, (.bipush 24, 20, 0, 0, 0, 0), x_0, (.imul, 21, 0, 0, 0, 0), (.ldc 32, 23, 536870912, 0, 0, 696), x_0, (.invokestatic 26, 26, 258, 4, 0, 690), x_0, x_0, (.aload_n 0, 27, 0, 0, 0, 0), (.getfield 11, 30, 0, 2, 0, 210), x_0, x_0, (.iload 5, 32, 0, 0, 0, 0), x_0, (.bipush 24, 34, 0, 0, 0, 0), x_0, (.imul, 35, 0, 0, 0, 0), (.iload 5, 37, 0, 0, 0, 0), x_0, (.iconst 1, 38, 0, 0, 0, 0), (.iadd, 39, 0, 0, 0, 0), (.bipush 24, 41, 0, 0, 0, 0), x_0, (.imul, 42, 0, 0, 0, 0), (.iconst 0, 43, 0, 0, 0, 0), (.invokestatic 26, 46, 258, 4, 0, 690), x_0, x_0, (.iload 5, 48, 0, 0, 0, 0), x_0, (.iconst 1, 49, 0, 0, 0, 0), (.isub, 50, 0, 0, 0, 0), (.istore 6, 52, 0, 0, 0, 0), x_0, (.iload 6, 54, 0, 0, 0, 0), x_0, (.ifCond .lt 105, 57, 159, 0, 0, 0), x_0, x_0, (.aload_n 3, 58, 0, 0, 0, 0), (.invokevirtual 86, 61, 44, 0, 3, 759), x_0, x_0, (.iload 6, 63, 0, 0, 0, 0), x_0, (.invokestatic 92, 66, 250, 1, 0, 760), x_0, x_0, (.iadd, 67, 0, 0, 0, 0), (.istore 7, 69, 0, 0, 0, 0), x_0, (.iconst 3, 70, 0, 0, 0, 0), (.iload_n 2, 71, 0, 0, 0, 0), (.iconst 1, 72, 0, 0, 0, 0), (.isub, 73, 0, 0, 0, 0), (.iload 6, 75, 0, 0, 0, 0), x_0, (.invokestatic 92, 78, 250, 1, 0, 760), x_0, x_0, (.isub, 79, 0, 0, 0, 0), (.imul, 80, 0, 0, 0, 0), (.istore 8, 82, 0, 0, 0, 0), x_0, (.iconst 0, 83, 0, 0, 0, 0), (.istore 9, 85, 0, 0, 0, 0), x_0, (.iload 9, 87, 0, 0, 0, 0), x_0, (.iload_n 2, 88, 0, 0, 0, 0), (.if_icmp .ge 65, 91, 153, 0, 0, 0), x_0, x_0, (.iload 9, 93, 0, 0, 0, 0), x_0, (.aload_n 1, 94, 0, 0, 0, 0), (.arraylength, 95, 0, 0, 0, 0), (.if_icmp .ge 58, 98, 153, 0, 0, 0), x_0, x_0, (.iload 6, 100, 0, 0, 0, 0), x_0, (.iload 9, 102, 0, 0, 0, 0), x_0, (.ishr, 103, 0, 0, 0, 0), (.iconst 1, 104, 0, 0, 0, 0), (.iand, 105, 0, 0, 0, 0), (.ifCond .ne 42, 108, 147, 0, 0, 0), x_0, x_0, (.aload_n 1, 109, 0, 0, 0, 0), (.iload 9, 111, 0, 0, 0, 0), x_0, (.aaload, 112, 0, 0, 0, 0), (.iload 7, 114, 0, 0, 0, 0), x_0, (.invokevirtual 97, 117, 20, 1, 1, 766), x_0, x_0, (.ifCond .le 30, 120, 147, 0, 0, 0), x_0, x_0, (.aload_n 0, 121, 0, 0, 0, 0), (.iload 6, 123, 0, 0, 0, 0), x_0, (.iload 6, 125, 0, 0, 0, 0), x_0, (.iconst 1, 126, 0, 0, 0, 0), (.iload 9, 128, 0, 0, 0, 0), x_0, (.ishl, 129, 0, 0, 0, 0), (.ior, 130, 0, 0, 0, 0), (.aload_n 1, 131, 0, 0, 0, 0), (.iload 9, 133, 0, 0, 0, 0), x_0, (.aaload, 134, 0, 0, 0, 0), (.iload 7, 136, 0, 0, 0, 0), x_0, (.invokevirtual 102, 139, 19, 1, 1, 767), x_0, x_0, (.iload 9, 141, 0, 0, 0, 0), x_0, (.iload 8, 143, 0, 0, 0, 0), x_0, (.ishl, 144, 0, 0, 0, 0), (.invokevirtual 105, 147, 9, 4, 0, 768), x_0, x_0, (.iinc 9 1, 150, 0, 0, 0, 0), x_0, x_0, (.goto (-65), 153, 85, 0, 0, 0), x_0, x_0, (.iinc 6 (-1), 156, 0, 0, 0, 0), x_0, x_0, (.goto (-104), 159, 52, 0, 0, 0), x_0, x_0, (.aload_n 0, 160, 0, 0, 0, 0), (.getfield 11, 163, 0, 2, 0, 210), x_0, x_0, (.aload_n 3, 164, 0, 0, 0, 0), (.invokevirtual 108, 167, 45, 0, 3, 773), x_0, x_0, (.invokestatic 43, 170, 123, 1, 8, 701), x_0, x_0, (.iaload, 171, 0, 0, 0, 0), (.istore 6, 173, 0, 0, 0, 0), x_0, (.iload 6, 175, 0, 0, 0, 0), x_0, (.ldc 32, 177, 536870912, 0, 0, 696), x_0, (.if_icmp .lt 6, 180, 183, 0, 0, 0), x_0, x_0, (.bipush (-9), 182, 0, 0, 0, 0), x_0, (.ireturn, 183, 0, 0, 0, 0), (.aload 4, 185, 0, 0, 0, 0), x_0, (.iload_n 2, 186, 0, 0, 0, 0), (.iconst 0, 187, 0, 0, 0, 0), (.invokevirtual 47, 190, 29, 2, 2, 714), x_0, x_0, (.iconst 0, 191, 0, 0, 0, 0), (.istore 7, 193, 0, 0, 0, 0), x_0, (.iload 7, 195, 0, 0, 0, 0), x_0, (.iload_n 2, 196, 0, 0, 0, 0), (.if_icmp .ge 30, 199, 226, 0, 0, 0), x_0, x_0, (.aload 4, 201, 0, 0, 0, 0), x_0, (.iload 7, 203, 0, 0, 0, 0), x_0, (.iload 6, 205, 0, 0, 0, 0), x_0, (.iconst 3, 206, 0, 0, 0, 0), (.iload_n 2, 207, 0, 0, 0, 0), (.iconst 1, 208, 0, 0, 0, 0), (.isub, 209, 0, 0, 0, 0), (.iload 7, 211, 0, 0, 0, 0), x_0, (.isub, 212, 0, 0, 0, 0), (.imul, 213, 0, 0, 0, 0), (.ishr, 214, 0, 0, 0, 0), (.bipush 7, 216, 0, 0, 0, 0), x_0, (.iand, 217, 0, 0, 0, 0), (.invokevirtual 53, 220, 33, 2, 2, 715), x_0, x_0, (.iinc 7 1, 223, 0, 0, 0, 0), x_0, x_0, (.goto (-30), 226, 193, 0, 0, 0), x_0, x_0, (.iload 6, 228, 0, 0, 0, 0), x_0, (.bipush 15, 230, 0, 0, 0, 0), x_0, (.ishr, 231, 0, 0, 0, 0), (.ireturn, 232, 0, 0, 0, 0)])
def mX0_lowerOrders : XM := (yX0_lowerOrders, cX0_lowerOrders, 10, none, [(.iconst 0, 1, 0, 0, 0, 0), (.istore 5, 3, 0, 0, 0, 0), x_0, (.iload 5, 5, 0, 0, 0, 0), x_0, (.bipush 24, 7, 0, 0, 0, 0), x_0, (.if_icmp .ge 114, 10, 121, 0, 0, 0), x_0, x_0, (.bipush (-6), 12, 0, 0, 0, 0), x_0, (.istore 6, 14, 0, 0, 0, 0), x_0, (.iload 6, 16, 0, 0, 0, 0), x_0, (.bipush 6, 18, 0, 0, 0, 0), x_0, (.if_icmp .gt 97, 21, 115, 0, 0, 0), x_0, x_0, (.iload 5, 23, 0, 0, 0, 0), x_0, (.iload 6, 25, 0, 0, 0, 0), x_0, (.iadd, 26, 0, 0, 0, 0), (.invokestatic 43, 29, 123, 1, 8, 701), x_0, x_0, (.istore 7, 31, 0, 0, 0, 0), x_0, (.aload_n 0, 32, 0, 0, 0, 0), (.getfield 18, 35, 0, 0, 0, 208), x_0, x_0, (.iload 7, 37, 0, 0, 0, 0), x_0, (.iload_n 3, 38, 0, 0, 0, 0), (.invokevirtual 111, 41, 72, 2, 6, 772), x_0, x_0, (.ifCond .le 68, 44, 109, 0, 0, 0), x_0, x_0, (.aload_n 0, 45, 0, 0, 0, 0), (.getfield 18, 48, 0, 0, 0, 208), x_0, x_0, (.iload 5, 50, 0, 0, 0, 0), x_0, (.iload 6, 52, 0, 0, 0, 0), x_0, (.invokevirtual 64, 55, 74, 2, 6, 709), x_0, x_0, (.bipush 15, 57, 0, 0, 0, 0), x_0, (.ishl, 58, 0, 0, 0, 0), (.iload 4, 60, 0, 0, 0, 0), x_0, (.iadd, 61, 0, 0, 0, 0), (.istore 8, 63, 0, 0, 0, 0), x_0, (.iload 8, 65, 0, 0, 0, 0), x_0, (.aload_n 0, 66, 0, 0, 0, 0), (.getfield 11, 69, 0, 2, 0, 210), x_0, x_0, (.iload_n 2, 70, 0, 0, 0, 0), (.bipush 24, 72, 0, 0, 0, 0), x_0, (.imul, 73, 0, 0, 0, 0), (.iload 7, 75, 0, 0, 0, 0), x_0, (.iadd, 76, 0, 0, 0, 0), (.iaload, 77, 0, 0, 0, 0), (.iadd, 78, 0, 0, 0, 0), (.istore 9, 80, 0, 0, 0, 0), x_0, (.aload_n 0, 81, 0, 0, 0, 0), (.getfield 11, 84, 0, 2, 0, 210), x_0, x_0, (.iload_n 1, 85, 0, 0, 0, 0), (.bipush 24, 87, 0, 0, 0, 0), x_0, (.imul, 88, 0, 0, 0, 0), (.iload 5, 90, 0, 0, 0, 0), x_0, (.iadd, 91, 0, 0, 0, 0), (.aload_n 0, 92, 0, 0, 0, 0), (.getfield 11, 95, 0, 2, 0, 210), x_0, x_0, (.iload_n 1, 96, 0, 0, 0, 0), (.bipush 24, 98, 0, 0, 0, 0), x_0, (.imul, 99, 0, 0, 0, 0), (.iload 5, 101, 0, 0, 0, 0), x_0, (.iadd, 102, 0, 0, 0, 0), (.iaload, 103, 0, 0, 0, 0), (.iload 9, 105, 0, 0, 0, 0), x_0, (.invokestatic 37, 108, 254, 2, 0, 708), x_0, x_0, (.iastore, 109, 0, 0, 0, 0), (.iinc 6 1, 112, 0, 0, 0, 0), x_0, x_0, (.goto (-98), 115, 14, 0, 0, 0), x_0, x_0, (.iinc 5 1, 118, 0, 0, 0, 0), x_0, x_0, (.goto (-115), 121, 3, 0, 0, 0), x_0, x_0, (.return_, 122, 0, 0, 0, 0)])
def mX0_swapTables : XM := (yX0_swapTables, cX0_swapTables, 2, none, [(.aload_n 0, 1, 0, 0, 0, 0), (.getfield 11, 4, 0, 2, 0, 210), x_0, x_0, (.astore_n 1, 5, 0, 0, 0, 0), (.aload_n 0, 6, 0, 0, 0, 0), (.aload_n 0, 7, 0, 0, 0, 0), (.getfield 15, 10, 0, 3, 0, 211), x_0, x_0, (.putfield 11, 13, 0, 2, 0, 210), x_0, x_0, (.aload_n 0, 14, 0, 0, 0, 0), (.aload_n 1, 15, 0, 0, 0, 0), (.putfield 15, 18, 0, 3, 0, 211), x_0, x_0, (.return_, 19, 0, 0, 0, 0)])
def mX1_init : XM := (yX1_init, cX1_init, 1, none, [(.aload_n 0, 1, 0, 0, 0, 0), (.invokespecial 3, 4, 9998, 0, 0, 142), x_0, x_0, (.aload_n 0, 5, 0, 0, 0, 0), (.iconst 0, 6, 0, 0, 0, 0), (.putfield 9, 9, 0, 0, 1, 143), x_0, x_0, (.aload_n 0, 10, 0, 0, 0, 0), (.iconst 0, 11, 0, 0, 0, 0), (.putfield 15, 14, 0, 1, 1, 144), x_0, x_0, (.aload_n 0, 15, 0, 0, 0, 0), (.iconst 0, 16, 0, 0, 0, 0), (.putfield 18, 19, 0, 2, 1, 145), x_0, x_0, (.aload_n 0, 20, 0, 0, 0, 0), (.iconst 0, 21, 0, 0, 0, 0), (.putfield 21, 24, 0, 3, 1, 146), x_0, x_0, (.return_, 25, 0, 0, 0, 0)])
def mX1_become : XM := (yX1_become, cX1_become, 5, none, [(.aload_n 0, 1, 0, 0, 0, 0), (.iload_n 1, 2, 0, 0, 0, 0), (.putfield 9, 5, 0, 0, 1, 143), x_0, x_0, (.aload_n 0, 6, 0, 0, 0, 0), (.iload_n 2, 7, 0, 0, 0, 0), (.putfield 15, 10, 0, 1, 1, 144), x_0, x_0, (.aload_n 0, 11, 0, 0, 0, 0), (.iload_n 3, 12, 0, 0, 0, 0), (.putfield 18, 15, 0, 2, 1, 145), x_0, x_0, (.aload_n 0, 16, 0, 0, 0, 0), (.iload 4, 18, 0, 0, 0, 0), x_0, (.putfield 21, 21, 0, 3, 1, 146), x_0, x_0, (.return_, 22, 0, 0, 0, 0)])
def mX1_standAt : XM := (yX1_standAt, cX1_standAt, 3, none, [(.aload_n 0, 1, 0, 0, 0, 0), (.iload_n 1, 2, 0, 0, 0, 0), (.aload_n 0, 3, 0, 0, 0, 0), (.iload_n 2, 4, 0, 0, 0, 0), (.invokevirtual 24, 7, 18, 1, 1, 502), x_0, x_0, (.isub, 8, 0, 0, 0, 0), (.invokestatic 28, 11, 123, 1, 8, 506), x_0, x_0, (.putfield 15, 14, 0, 1, 1, 144), x_0, x_0, (.return_, 15, 0, 0, 0, 0)])
def mX1_kind : XM := (yX1_kind, cX1_kind, 1, (some (.int)), [(.aload_n 0, 1, 0, 0, 0, 0), (.getfield 9, 4, 0, 0, 1, 143), x_0, x_0, (.ireturn, 5, 0, 0, 0, 0)])
def mX1_speed : XM := (yX1_speed, cX1_speed, 1, (some (.int)), [(.aload_n 0, 1, 0, 0, 0, 0), (.getfield 18, 4, 0, 2, 1, 145), x_0, x_0, (.ireturn, 5, 0, 0, 0, 0)])
def mX1_toldBright : XM := (yX1_toldBright, cX1_toldBright, 1, (some (.int)), [(.aload_n 0, 1, 0, 0, 0, 0), (.getfield 21, 4, 0, 3, 1, 146), x_0, x_0, (.ireturn, 5, 0, 0, 0, 0)])
def mX1_isOf : XM := (yX1_isOf, cX1_isOf, 2, (some (.boolean)), [(.aload_n 0, 1, 0, 0, 0, 0), (.getfield 9, 4, 0, 0, 1, 143), x_0, x_0, (.iload_n 1, 5, 0, 0, 0, 0), (.if_icmp .eq 29, 8, 34, 0, 0, 0), x_0, x_0, (.aload_n 0, 9, 0, 0, 0, 0), (.getfield 9, 12, 0, 0, 1, 143), x_0, x_0, (.iconst 4, 13, 0, 0, 0, 0), (.if_icmp .ne 8, 16, 21, 0, 0, 0), x_0, x_0, (.iload_n 1, 17, 0, 0, 0, 0), (.iconst 1, 18, 0, 0, 0, 0), (.if_icmp .eq 16, 21, 34, 0, 0, 0), x_0, x_0, (.aload_n 0, 22, 0, 0, 0, 0), (.getfield 9, 25, 0, 0, 1, 143), x_0, x_0, (.iconst 5, 26, 0, 0, 0, 0), (.if_icmp .ne 12, 29, 38, 0, 0, 0), x_0, x_0, (.iload_n 1, 30, 0, 0, 0, 0), (.iconst 3, 31, 0, 0, 0, 0), (.if_icmp .ne 7, 34, 38, 0, 0, 0), x_0, x_0, (.iconst 1, 35, 0, 0, 0, 0), (.goto 4, 38, 39, 0, 0, 0), x_0, x_0, (.iconst 0, 39, 0, 0, 0, 0), (.ireturn, 40, 0, 0, 0, 0)])
def mX1_movedBy : XM := (yX1_movedBy, cX1_movedBy, 2, (some (.int)), [(.aload_n 0, 1, 0, 0, 0, 0), (.getfield 9, 4, 0, 0, 1, 143), x_0, x_0, (.tableswitch 54 1 4 #[32, 43, 54, 52], 36, 0, 0, 0, 0), x_0, x_0, x_0, x_0, x_0, x_0, x_0, x_0, x_0, x_0, x_0, x_0, x_0, x_0, x_0, x_0, x_0, x_0, x_0, x_0, x_0, x_0, x_0, x_0, x_0, x_0, x_0, x_0, x_0, x_0, x_0, (.aload_n 0, 37, 0, 0, 0, 0), (.getfield 18, 40, 0, 2, 1, 145), x_0, x_0, (.iload_n 1, 41, 0, 0, 0, 0), (.iconst 1, 42, 0, 0, 0, 0), (.iadd, 43, 0, 0, 0, 0), (.iconst 2, 44, 0, 0, 0, 0), (.idiv, 45, 0, 0, 0, 0), (.imul, 46, 0, 0, 0, 0), (.ireturn, 47, 0, 0, 0, 0), (.iconst 2, 48, 0, 0, 0, 0), (.aload_n 0, 49, 0, 0, 0, 0), (.getfield 18, 52, 0, 2, 1, 145), x_0, x_0, (.imul, 53, 0, 0, 0, 0), (.iload_n 1, 54, 0, 0, 0, 0), (.imul, 55, 0, 0, 0, 0), (.ireturn, 56, 0, 0, 0, 0), (.iconst 0, 57, 0, 0, 0, 0), (.ireturn, 58, 0, 0, 0, 0), (.aload_n 0, 59, 0, 0, 0, 0), (.getfield 18, 62, 0, 2, 1, 145), x_0, x_0, (.iload_n 1, 63, 0, 0, 0, 0), (.imul, 64, 0, 0, 0, 0), (.ireturn, 65, 0, 0, 0, 0)])
def mX1_placeAt : XM := (yX1_placeAt, cX1_placeAt, 2, (some (.int)), [(.aload_n 0, 1, 0, 0, 0, 0), (.getfield 15, 4, 0, 1, 1, 144), x_0, x_0, (.aload_n 0, 5, 0, 0, 0, 0), (.iload_n 1, 6, 0, 0, 0, 0), (.invokevirtual 24, 9, 18, 1, 1, 502), x_0, x_0, (.iadd, 10, 0, 0, 0, 0), (.invokestatic 28, 13, 123, 1, 8, 506), x_0, x_0, (.ireturn, 14, 0, 0, 0, 0)])
def mX1_brightAt : XM := (yX1_brightAt, cX1_brightAt, 3, (some (.int)), [(.aload_n 0, 1, 0, 0, 0, 0), (.iconst 3, 2, 0, 0, 0, 0), (.invokevirtual 31, 5, 17, 1, 1, 524), x_0, x_0, (.ifCond .eq 18, 8, 23, 0, 0, 0), x_0, x_0, (.iload_n 1, 9, 0, 0, 0, 0), (.iconst 2, 10, 0, 0, 0, 0), (.irem, 11, 0, 0, 0, 0), (.ifCond .eq 12, 14, 23, 0, 0, 0), x_0, x_0, (.aload_n 0, 15, 0, 0, 0, 0), (.getfield 21, 18, 0, 3, 1, 146), x_0, x_0, (.iconst 2, 19, 0, 0, 0, 0), (.idiv, 20, 0, 0, 0, 0), (.goto 7, 23, 27, 0, 0, 0), x_0, x_0, (.aload_n 0, 24, 0, 0, 0, 0), (.getfield 21, 27, 0, 3, 1, 146), x_0, x_0, (.istore_n 2, 28, 0, 0, 0, 0), (.aload_n 0, 29, 0, 0, 0, 0), (.getfield 9, 32, 0, 0, 1, 143), x_0, x_0, (.iconst 5, 33, 0, 0, 0, 0), (.if_icmp .ne 15, 36, 48, 0, 0, 0), x_0, x_0, (.iload_n 1, 37, 0, 0, 0, 0), (.iconst 4, 38, 0, 0, 0, 0), (.irem, 39, 0, 0, 0, 0), (.ifCond .ne 9, 42, 48, 0, 0, 0), x_0, x_0, (.iload_n 2, 43, 0, 0, 0, 0), (.iconst 3, 44, 0, 0, 0, 0), (.iadd, 45, 0, 0, 0, 0), (.goto 4, 48, 49, 0, 0, 0), x_0, x_0, (.iload_n 2, 49, 0, 0, 0, 0), (.ireturn, 50, 0, 0, 0, 0)])
def mX1_brightTogether : XM := (yX1_brightTogether, cX1_brightTogether, 5, (some (.int)), [(.iconst 0, 1, 0, 0, 0, 0), (.istore_n 3, 2, 0, 0, 0, 0), (.iconst 0, 3, 0, 0, 0, 0), (.istore 4, 5, 0, 0, 0, 0), x_0, (.iload 4, 7, 0, 0, 0, 0), x_0, (.iload_n 2, 8, 0, 0, 0, 0), (.if_icmp .ge 20, 11, 28, 0, 0, 0), x_0, x_0, (.iload_n 3, 12, 0, 0, 0, 0), (.aload_n 0, 13, 0, 0, 0, 0), (.iload_n 1, 14, 0, 0, 0, 0), (.iload 4, 16, 0, 0, 0, 0), x_0, (.iadd, 17, 0, 0, 0, 0), (.invokevirtual 35, 20, 20, 1, 1, 565), x_0, x_0, (.iadd, 21, 0, 0, 0, 0), (.istore_n 3, 22, 0, 0, 0, 0), (.iinc 4 1, 25, 0, 0, 0, 0), x_0, x_0, (.goto (-20), 28, 5, 0, 0, 0), x_0, x_0, (.iload_n 3, 29, 0, 0, 0, 0), (.ireturn, 30, 0, 0, 0, 0)])
def mX1_movesWithin : XM := (yX1_movesWithin, cX1_movesWithin, 5, (some (.int)), [(.iconst 0, 1, 0, 0, 0, 0), (.istore_n 3, 2, 0, 0, 0, 0), (.iconst 0, 3, 0, 0, 0, 0), (.istore 4, 5, 0, 0, 0, 0), x_0, (.iload 4, 7, 0, 0, 0, 0), x_0, (.iload_n 2, 8, 0, 0, 0, 0), (.if_icmp .ge 38, 11, 46, 0, 0, 0), x_0, x_0, (.iload_n 3, 12, 0, 0, 0, 0), (.aload_n 0, 13, 0, 0, 0, 0), (.iload_n 1, 14, 0, 0, 0, 0), (.iload 4, 16, 0, 0, 0, 0), x_0, (.iadd, 17, 0, 0, 0, 0), (.invokevirtual 38, 20, 19, 1, 1, 556), x_0, x_0, (.aload_n 0, 21, 0, 0, 0, 0), (.iload_n 1, 22, 0, 0, 0, 0), (.iload 4, 24, 0, 0, 0, 0), x_0, (.iadd, 25, 0, 0, 0, 0), (.iconst 1, 26, 0, 0, 0, 0), (.iadd, 27, 0, 0, 0, 0), (.invokevirtual 38, 30, 19, 1, 1, 556), x_0, x_0, (.if_icmp .eq 7, 33, 37, 0, 0, 0), x_0, x_0, (.iconst 1, 34, 0, 0, 0, 0), (.goto 4, 37, 38, 0, 0, 0), x_0, x_0, (.iconst 0, 38, 0, 0, 0, 0), (.iadd, 39, 0, 0, 0, 0), (.istore_n 3, 40, 0, 0, 0, 0), (.iinc 4 1, 43, 0, 0, 0, 0), x_0, x_0, (.goto (-38), 46, 5, 0, 0, 0), x_0, x_0, (.iload_n 3, 47, 0, 0, 0, 0), (.ireturn, 48, 0, 0, 0, 0)])
def mX1_returnsAfter : XM := (yX1_returnsAfter, cX1_returnsAfter, 3, (some (.int)), [(.iconst 1, 1, 0, 0, 0, 0), (.istore_n 2, 2, 0, 0, 0, 0), (.iload_n 2, 3, 0, 0, 0, 0), (.bipush 24, 5, 0, 0, 0, 0), x_0, (.if_icmp .ge 24, 8, 29, 0, 0, 0), x_0, x_0, (.aload_n 0, 9, 0, 0, 0, 0), (.iload_n 1, 10, 0, 0, 0, 0), (.iload_n 2, 11, 0, 0, 0, 0), (.iadd, 12, 0, 0, 0, 0), (.invokevirtual 38, 15, 19, 1, 1, 556), x_0, x_0, (.aload_n 0, 16, 0, 0, 0, 0), (.iload_n 1, 17, 0, 0, 0, 0), (.invokevirtual 38, 20, 19, 1, 1, 556), x_0, x_0, (.if_icmp .eq 9, 23, 29, 0, 0, 0), x_0, x_0, (.iinc 2 1, 26, 0, 0, 0, 0), x_0, x_0, (.goto (-24), 29, 2, 0, 0, 0), x_0, x_0, (.iload_n 2, 30, 0, 0, 0, 0), (.ireturn, 31, 0, 0, 0, 0)])
def mX2_init : XM := (yX2_init, cX2_init, 2, none, [(.aload_n 0, 1, 0, 0, 0, 0), (.invokespecial 3, 4, 9998, 0, 0, 245), x_0, x_0, (.aload_n 0, 5, 0, 0, 0, 0), (.iconst (-1), 6, 0, 0, 0, 0), (.putfield 9, 9, 0, 1, 2, 250), x_0, x_0, (.aload_n 0, 10, 0, 0, 0, 0), (.iload_n 1, 11, 0, 0, 0, 0), (.iconst 0, 12, 0, 0, 0, 0), (.invokestatic 15, 15, 253, 2, 0, 246), x_0, x_0, (.newarray .int, 17, 0, 0, 0, 0), x_0, (.putfield 21, 20, 0, 0, 2, 249), x_0, x_0, (.return_, 21, 0, 0, 0, 0)])
def mX2_room : XM := (yX2_room, cX2_room, 1, (some (.int)), [(.aload_n 0, 1, 0, 0, 0, 0), (.getfield 21, 4, 0, 0, 2, 249), x_0, x_0, (.arraylength, 5, 0, 0, 0, 0), (.ireturn, 6, 0, 0, 0, 0)])
def mX2_size : XM := (yX2_size, cX2_size, 1, (some (.int)), [(.aload_n 0, 1, 0, 0, 0, 0), (.getfield 9, 4, 0, 1, 2, 250), x_0, x_0, (.ireturn, 5, 0, 0, 0, 0)])
def mX2_isMissing : XM := (yX2_isMissing, cX2_isMissing, 1, (some (.boolean)), [(.aload_n 0, 1, 0, 0, 0, 0), (.getfield 9, 4, 0, 1, 2, 250), x_0, x_0, (.ifCond .ge 7, 7, 11, 0, 0, 0), x_0, x_0, (.iconst 1, 8, 0, 0, 0, 0), (.goto 4, 11, 12, 0, 0, 0), x_0, x_0, (.iconst 0, 12, 0, 0, 0, 0), (.ireturn, 13, 0, 0, 0, 0)])
def mX2_remove : XM := (yX2_remove, cX2_remove, 1, none, [(.aload_n 0, 1, 0, 0, 0, 0), (.iconst (-1), 2, 0, 0, 0, 0), (.putfield 9, 5, 0, 1, 2, 250), x_0, x_0, (.return_, 6, 0, 0, 0, 0)])
def mX2_renew : XM := (yX2_renew, cX2_renew, 3, none, [(.aload_n 0, 1, 0, 0, 0, 0), (.iconst 0, 2, 0, 0, 0, 0), (.iload_n 1, 3, 0, 0, 0, 0), (.aload_n 0, 4, 0, 0, 0, 0), (.getfield 21, 7, 0, 0, 2, 249), x_0, x_0, (.arraylength, 8, 0, 0, 0, 0), (.invokestatic 25, 11, 254, 2, 0, 335), x_0, x_0, (.invokestatic 15, 14, 253, 2, 0, 246), x_0, x_0, (.putfield 9, 17, 0, 1, 2, 250), x_0, x_0, (.aload_n 0, 18, 0, 0, 0, 0), (.getfield 21, 21, 0, 0, 2, 249), x_0, x_0, (.iload_n 2, 22, 0, 0, 0, 0), (.invokestatic 28, 25, 257, 2, 0, 338), x_0, x_0, (.return_, 26, 0, 0, 0, 0)])
def mX2_holds : XM := (yX2_holds, cX2_holds, 2, (some (.boolean)), [(.iload_n 1, 1, 0, 0, 0, 0), (.ifCond .lt 15, 4, 16, 0, 0, 0), x_0, x_0, (.iload_n 1, 5, 0, 0, 0, 0), (.aload_n 0, 6, 0, 0, 0, 0), (.getfield 9, 9, 0, 1, 2, 250), x_0, x_0, (.if_icmp .ge 7, 12, 16, 0, 0, 0), x_0, x_0, (.iconst 1, 13, 0, 0, 0, 0), (.goto 4, 16, 17, 0, 0, 0), x_0, x_0, (.iconst 0, 17, 0, 0, 0, 0), (.ireturn, 18, 0, 0, 0, 0)])
def mX2_holdsRun : XM := (yX2_holdsRun, cX2_holdsRun, 3, (some (.boolean)), [(.iload_n 1, 1, 0, 0, 0, 0), (.ifCond .lt 29, 4, 30, 0, 0, 0), x_0, x_0, (.iload_n 1, 5, 0, 0, 0, 0), (.aload_n 0, 6, 0, 0, 0, 0), (.getfield 9, 9, 0, 1, 2, 250), x_0, x_0, (.if_icmp .gt 21, 12, 30, 0, 0, 0), x_0, x_0, (.iload_n 2, 13, 0, 0, 0, 0), (.ifCond .lt 17, 16, 30, 0, 0, 0), x_0, x_0, (.iload_n 2, 17, 0, 0, 0, 0), (.aload_n 0, 18, 0, 0, 0, 0), (.getfield 9, 21, 0, 1, 2, 250), x_0, x_0, (.iload_n 1, 22, 0, 0, 0, 0), (.isub, 23, 0, 0, 0, 0), (.if_icmp .gt 7, 26, 30, 0, 0, 0), x_0, x_0, (.iconst 1, 27, 0, 0, 0, 0), (.goto 4, 30, 31, 0, 0, 0), x_0, x_0, (.iconst 0, 31, 0, 0, 0, 0), (.ireturn, 32, 0, 0, 0, 0)])
def mX2_read : XM := (yX2_read, cX2_read, 2, (some (.int)), [(.aload_n 0, 1, 0, 0, 0, 0), (.iload_n 1, 2, 0, 0, 0, 0), (.invokevirtual 34, 5, 30, 1, 2, 365), x_0, x_0, (.ifCond .eq 12, 8, 17, 0, 0, 0), x_0, x_0, (.aload_n 0, 9, 0, 0, 0, 0), (.getfield 21, 12, 0, 0, 2, 249), x_0, x_0, (.iload_n 1, 13, 0, 0, 0, 0), (.iaload, 14, 0, 0, 0, 0), (.goto 4, 17, 18, 0, 0, 0), x_0, x_0, (.iconst 0, 18, 0, 0, 0, 0), (.ireturn, 19, 0, 0, 0, 0)])
def mX2_write : XM := (yX2_write, cX2_write, 3, none, [(.aload_n 0, 1, 0, 0, 0, 0), (.iload_n 1, 2, 0, 0, 0, 0), (.invokevirtual 34, 5, 30, 1, 2, 365), x_0, x_0, (.ifCond .eq 10, 8, 15, 0, 0, 0), x_0, x_0, (.aload_n 0, 9, 0, 0, 0, 0), (.getfield 21, 12, 0, 0, 2, 249), x_0, x_0, (.iload_n 1, 13, 0, 0, 0, 0), (.iload_n 2, 14, 0, 0, 0, 0), (.iastore, 15, 0, 0, 0, 0), (.return_, 16, 0, 0, 0, 0)])
def mX2_take : XM := (yX2_take, cX2_take, 5, none, [(.aload_n 2, 1, 0, 0, 0, 0), (.iload_n 3, 2, 0, 0, 0, 0), (.iload 4, 4, 0, 0, 0, 0), x_0, (.invokevirtual 38, 7, 31, 2, 2, 394), x_0, x_0, (.ifCond .eq 28, 10, 35, 0, 0, 0), x_0, x_0, (.aload_n 0, 11, 0, 0, 0, 0), (.iload_n 1, 12, 0, 0, 0, 0), (.iload 4, 14, 0, 0, 0, 0), x_0, (.invokevirtual 38, 17, 31, 2, 2, 394), x_0, x_0, (.ifCond .eq 18, 20, 35, 0, 0, 0), x_0, x_0, (.aload_n 2, 21, 0, 0, 0, 0), (.getfield 21, 24, 0, 0, 2, 249), x_0, x_0, (.iload_n 3, 25, 0, 0, 0, 0), (.aload_n 0, 26, 0, 0, 0, 0), (.getfield 21, 29, 0, 0, 2, 249), x_0, x_0, (.iload_n 1, 30, 0, 0, 0, 0), (.iload 4, 32, 0, 0, 0, 0), x_0, (.invokestatic 42, 35, 9999, 5, 0, 395), x_0, x_0, (.return_, 36, 0, 0, 0, 0)])
def mX2_sum : XM := (yX2_sum, cX2_sum, 4, (some (.long)), [(.lconst 0, 1, 0, 0, 0, 0), (.lstore_n 1, 2, 0, 0, 0, 0), (.iconst 0, 3, 0, 0, 0, 0), (.istore_n 3, 4, 0, 0, 0, 0), (.iload_n 3, 5, 0, 0, 0, 0), (.aload_n 0, 6, 0, 0, 0, 0), (.getfield 9, 9, 0, 1, 2, 250), x_0, x_0, (.if_icmp .ge 19, 12, 28, 0, 0, 0), x_0, x_0, (.lload_n 1, 13, 0, 0, 0, 0), (.aload_n 0, 14, 0, 0, 0, 0), (.getfield 21, 17, 0, 0, 2, 249), x_0, x_0, (.iload_n 3, 18, 0, 0, 0, 0), (.iaload, 19, 0, 0, 0, 0), (.i2l, 20, 0, 0, 0, 0), (.ladd, 21, 0, 0, 0, 0), (.lstore_n 1, 22, 0, 0, 0, 0), (.iinc 3 1, 25, 0, 0, 0, 0), x_0, x_0, (.goto (-21), 28, 4, 0, 0, 0), x_0, x_0, (.lload_n 1, 29, 0, 0, 0, 0), (.lreturn, 30, 0, 0, 0, 0)])
def mX2_isAllWithin : XM := (yX2_isAllWithin, cX2_isAllWithin, 4, (some (.boolean)), [(.iconst 0, 1, 0, 0, 0, 0), (.istore_n 3, 2, 0, 0, 0, 0), (.iload_n 3, 3, 0, 0, 0, 0), (.aload_n 0, 4, 0, 0, 0, 0), (.getfield 9, 7, 0, 1, 2, 250), x_0, x_0, (.if_icmp .ge 31, 10, 38, 0, 0, 0), x_0, x_0, (.aload_n 0, 11, 0, 0, 0, 0), (.getfield 21, 14, 0, 0, 2, 249), x_0, x_0, (.iload_n 3, 15, 0, 0, 0, 0), (.iaload, 16, 0, 0, 0, 0), (.iload_n 1, 17, 0, 0, 0, 0), (.if_icmp .lt 13, 20, 30, 0, 0, 0), x_0, x_0, (.aload_n 0, 21, 0, 0, 0, 0), (.getfield 21, 24, 0, 0, 2, 249), x_0, x_0, (.iload_n 3, 25, 0, 0, 0, 0), (.iaload, 26, 0, 0, 0, 0), (.iload_n 2, 27, 0, 0, 0, 0), (.if_icmp .le 5, 30, 32, 0, 0, 0), x_0, x_0, (.iconst 0, 31, 0, 0, 0, 0), (.ireturn, 32, 0, 0, 0, 0), (.iinc 3 1, 35, 0, 0, 0, 0), x_0, x_0, (.goto (-33), 38, 2, 0, 0, 0), x_0, x_0, (.iconst 1, 39, 0, 0, 0, 0), (.ireturn, 40, 0, 0, 0, 0)])
def mX2_firstLess : XM := (yX2_firstLess, cX2_firstLess, 2, (some (.int)), [(.iconst 1, 1, 0, 0, 0, 0), (.istore_n 1, 2, 0, 0, 0, 0), (.iload_n 1, 3, 0, 0, 0, 0), (.aload_n 0, 4, 0, 0, 0, 0), (.getfield 9, 7, 0, 1, 2, 250), x_0, x_0, (.if_icmp .ge 28, 10, 35, 0, 0, 0), x_0, x_0, (.aload_n 0, 11, 0, 0, 0, 0), (.getfield 21, 14, 0, 0, 2, 249), x_0, x_0, (.iload_n 1, 15, 0, 0, 0, 0), (.iaload, 16, 0, 0, 0, 0), (.aload_n 0, 17, 0, 0, 0, 0), (.getfield 21, 20, 0, 0, 2, 249), x_0, x_0, (.iload_n 1, 21, 0, 0, 0, 0), (.iconst 1, 22, 0, 0, 0, 0), (.isub, 23, 0, 0, 0, 0), (.iaload, 24, 0, 0, 0, 0), (.if_icmp .ge 5, 27, 29, 0, 0, 0), x_0, x_0, (.iload_n 1, 28, 0, 0, 0, 0), (.ireturn, 29, 0, 0, 0, 0), (.iinc 1 1, 32, 0, 0, 0, 0), x_0, x_0, (.goto (-30), 35, 2, 0, 0, 0), x_0, x_0, (.bipush (-9), 37, 0, 0, 0, 0), x_0, (.ireturn, 38, 0, 0, 0, 0)])
def mX2_mixedInto : XM := (yX2_mixedInto, cX2_mixedInto, 4, (some (.long)), [(.ldc2_w 48, 3, 31, 0, 0, 941), x_0, x_0, (.lload_n 1, 4, 0, 0, 0, 0), (.lmul, 5, 0, 0, 0, 0), (.aload_n 0, 6, 0, 0, 0, 0), (.getfield 9, 9, 0, 1, 2, 250), x_0, x_0, (.i2l, 10, 0, 0, 0, 0), (.ladd, 11, 0, 0, 0, 0), (.lstore_n 1, 12, 0, 0, 0, 0), (.iconst 0, 13, 0, 0, 0, 0), (.istore_n 3, 14, 0, 0, 0, 0), (.iload_n 3, 15, 0, 0, 0, 0), (.aload_n 0, 16, 0, 0, 0, 0), (.getfield 9, 19, 0, 1, 2, 250), x_0, x_0, (.if_icmp .ge 23, 22, 42, 0, 0, 0), x_0, x_0, (.ldc2_w 48, 25, 31, 0, 0, 941), x_0, x_0, (.lload_n 1, 26, 0, 0, 0, 0), (.lmul, 27, 0, 0, 0, 0), (.aload_n 0, 28, 0, 0, 0, 0), (.getfield 21, 31, 0, 0, 2, 249), x_0, x_0, (.iload_n 3, 32, 0, 0, 0, 0), (.iaload, 33, 0, 0, 0, 0), (.i2l, 34, 0, 0, 0, 0), (.ladd, 35, 0, 0, 0, 0), (.lstore_n 1, 36, 0, 0, 0, 0), (.iinc 3 1, 39, 0, 0, 0, 0), x_0, x_0, (.goto (-25), 42, 14, 0, 0, 0), x_0, x_0, (.lload_n 1, 43, 0, 0, 0, 0), (.lreturn, 44, 0, 0, 0, 0)])
def mX3_init : XM := (yX3_init, cX3_init, 1, none, [(.aload_n 0, 1, 0, 0, 0, 0), (.invokespecial 3, 4, 9998, 0, 0, 174), x_0, x_0, (.aload_n 0, 5, 0, 0, 0, 0), (.bipush 40, 7, 0, 0, 0, 0), x_0, (.newarray .int, 9, 0, 0, 0, 0), x_0, (.putfield 9, 12, 0, 0, 3, 175), x_0, x_0, (.aload_n 0, 13, 0, 0, 0, 0), (.iconst 0, 14, 0, 0, 0, 0), (.putfield 15, 17, 0, 1, 3, 176), x_0, x_0, (.aload_n 0, 18, 0, 0, 0, 0), (.iconst 0, 19, 0, 0, 0, 0), (.putfield 19, 22, 0, 2, 3, 177), x_0, x_0, (.aload_n 0, 23, 0, 0, 0, 0), (.iconst 0, 24, 0, 0, 0, 0), (.putfield 22, 27, 0, 3, 3, 178), x_0, x_0, (.aload_n 0, 28, 0, 0, 0, 0), (.iconst 0, 29, 0, 0, 0, 0), (.putfield 25, 32, 0, 4, 3, 179), x_0, x_0, (.return_, 33, 0, 0, 0, 0)])
def mX3_begin : XM := (yX3_begin, cX3_begin, 1, none, [(.aload_n 0, 1, 0, 0, 0, 0), (.iconst 0, 2, 0, 0, 0, 0), (.putfield 15, 5, 0, 1, 3, 176), x_0, x_0, (.aload_n 0, 6, 0, 0, 0, 0), (.iconst 0, 7, 0, 0, 0, 0), (.putfield 19, 10, 0, 2, 3, 177), x_0, x_0, (.aload_n 0, 11, 0, 0, 0, 0), (.iconst 0, 12, 0, 0, 0, 0), (.putfield 22, 15, 0, 3, 3, 178), x_0, x_0, (.aload_n 0, 16, 0, 0, 0, 0), (.iconst 0, 17, 0, 0, 0, 0), (.putfield 25, 20, 0, 4, 3, 179), x_0, x_0, (.return_, 21, 0, 0, 0, 0)])
def mX3_forget : XM := (yX3_forget, cX3_forget, 1, none, [(.aload_n 0, 1, 0, 0, 0, 0), (.iconst (-1), 2, 0, 0, 0, 0), (.putfield 15, 5, 0, 1, 3, 176), x_0, x_0, (.return_, 6, 0, 0, 0, 0)])
def mX3_isForgotten : XM := (yX3_isForgotten, cX3_isForgotten, 1, (some (.boolean)), [(.aload_n 0, 1, 0, 0, 0, 0), (.getfield 15, 4, 0, 1, 3, 176), x_0, x_0, (.ifCond .ge 7, 7, 11, 0, 0, 0), x_0, x_0, (.iconst 1, 8, 0, 0, 0, 0), (.goto 4, 11, 12, 0, 0, 0), x_0, x_0, (.iconst 0, 12, 0, 0, 0, 0), (.ireturn, 13, 0, 0, 0, 0)])
def mX3_done : XM := (yX3_done, cX3_done, 1, (some (.int)), [(.aload_n 0, 1, 0, 0, 0, 0), (.getfield 15, 4, 0, 1, 3, 176), x_0, x_0, (.ireturn, 5, 0, 0, 0, 0)])
def mX3_now : XM := (yX3_now, cX3_now, 1, (some (.int)), [(.aload_n 0, 1, 0, 0, 0, 0), (.getfield 19, 4, 0, 2, 3, 177), x_0, x_0, (.ireturn, 5, 0, 0, 0, 0)])
def mX3_first : XM := (yX3_first, cX3_first, 1, (some (.int)), [(.aload_n 0, 1, 0, 0, 0, 0), (.getfield 22, 4, 0, 3, 3, 178), x_0, x_0, (.ireturn, 5, 0, 0, 0, 0)])
def mX3_spent : XM := (yX3_spent, cX3_spent, 1, (some (.int)), [(.aload_n 0, 1, 0, 0, 0, 0), (.getfield 25, 4, 0, 4, 3, 179), x_0, x_0, (.ireturn, 5, 0, 0, 0, 0)])
def mX3_hasRoom : XM := (yX3_hasRoom, cX3_hasRoom, 2, (some (.boolean)), [(.aload_n 0, 1, 0, 0, 0, 0), (.getfield 15, 4, 0, 1, 3, 176), x_0, x_0, (.ifCond .lt 21, 7, 25, 0, 0, 0), x_0, x_0, (.aload_n 0, 8, 0, 0, 0, 0), (.getfield 15, 11, 0, 1, 3, 176), x_0, x_0, (.iload_n 1, 12, 0, 0, 0, 0), (.iadd, 13, 0, 0, 0, 0), (.aload_n 0, 14, 0, 0, 0, 0), (.getfield 9, 17, 0, 0, 3, 175), x_0, x_0, (.arraylength, 18, 0, 0, 0, 0), (.if_icmp .gt 7, 21, 25, 0, 0, 0), x_0, x_0, (.iconst 1, 22, 0, 0, 0, 0), (.goto 4, 25, 26, 0, 0, 0), x_0, x_0, (.iconst 0, 26, 0, 0, 0, 0), (.ireturn, 27, 0, 0, 0, 0)])
def mX3_pass : XM := (yX3_pass, cX3_pass, 1, none, [(.aload_n 0, 1, 0, 0, 0, 0), (.iconst 0, 2, 0, 0, 0, 0), (.invokevirtual 28, 5, 52, 1, 3, 586), x_0, x_0, (.aload_n 0, 6, 0, 0, 0, 0), (.dup, 7, 0, 0, 0, 0), (.getfield 19, 10, 0, 2, 3, 177), x_0, x_0, (.iconst 1, 11, 0, 0, 0, 0), (.iadd, 12, 0, 0, 0, 0), (.putfield 19, 15, 0, 2, 3, 177), x_0, x_0, (.return_, 16, 0, 0, 0, 0)])
def mX3_turnBy : XM := (yX3_turnBy, cX3_turnBy, 4, (some (.int)), [(.aload_n 0, 1, 0, 0, 0, 0), (.iload_n 1, 2, 0, 0, 0, 0), (.invokevirtual 28, 5, 52, 1, 3, 586), x_0, x_0, (.aload_n 2, 6, 0, 0, 0, 0), (.aload_n 0, 7, 0, 0, 0, 0), (.getfield 22, 10, 0, 3, 3, 178), x_0, x_0, (.iload_n 1, 11, 0, 0, 0, 0), (.invokevirtual 32, 14, 74, 2, 6, 599), x_0, x_0, (.istore_n 3, 15, 0, 0, 0, 0), (.aload_n 0, 16, 0, 0, 0, 0), (.aload_n 0, 17, 0, 0, 0, 0), (.getfield 22, 20, 0, 3, 3, 178), x_0, x_0, (.iload_n 1, 21, 0, 0, 0, 0), (.iadd, 22, 0, 0, 0, 0), (.invokestatic 38, 25, 123, 1, 8, 606), x_0, x_0, (.putfield 22, 28, 0, 3, 3, 178), x_0, x_0, (.aload_n 0, 29, 0, 0, 0, 0), (.dup, 30, 0, 0, 0, 0), (.getfield 25, 33, 0, 4, 3, 179), x_0, x_0, (.iload_n 3, 34, 0, 0, 0, 0), (.iadd, 35, 0, 0, 0, 0), (.putfield 25, 38, 0, 4, 3, 179), x_0, x_0, (.iload_n 3, 39, 0, 0, 0, 0), (.ireturn, 40, 0, 0, 0, 0)])
def mX3_rewind : XM := (yX3_rewind, cX3_rewind, 4, none, [(.aload_n 0, 1, 0, 0, 0, 0), (.invokevirtual 42, 4, 40, 0, 3, 619), x_0, x_0, (.iconst 0, 5, 0, 0, 0, 0), (.istore_n 3, 6, 0, 0, 0, 0), (.iload_n 3, 7, 0, 0, 0, 0), (.iload_n 1, 8, 0, 0, 0, 0), (.if_icmp .ge 46, 11, 54, 0, 0, 0), x_0, x_0, (.iload_n 3, 12, 0, 0, 0, 0), (.aload_n 0, 13, 0, 0, 0, 0), (.getfield 9, 16, 0, 0, 3, 175), x_0, x_0, (.arraylength, 17, 0, 0, 0, 0), (.if_icmp .ge 37, 20, 54, 0, 0, 0), x_0, x_0, (.aload_n 0, 21, 0, 0, 0, 0), (.getfield 9, 24, 0, 0, 3, 175), x_0, x_0, (.iload_n 3, 25, 0, 0, 0, 0), (.iaload, 26, 0, 0, 0, 0), (.ifCond .ne 10, 29, 36, 0, 0, 0), x_0, x_0, (.aload_n 0, 30, 0, 0, 0, 0), (.invokevirtual 45, 33, 48, 0, 3, 620), x_0, x_0, (.goto 15, 36, 48, 0, 0, 0), x_0, x_0, (.aload_n 0, 37, 0, 0, 0, 0), (.aload_n 0, 38, 0, 0, 0, 0), (.getfield 9, 41, 0, 0, 3, 175), x_0, x_0, (.iload_n 3, 42, 0, 0, 0, 0), (.iaload, 43, 0, 0, 0, 0), (.aload_n 2, 44, 0, 0, 0, 0), (.invokevirtual 48, 47, 49, 2, 3, 621), x_0, x_0, (.pop, 48, 0, 0, 0, 0), (.iinc 3 1, 51, 0, 0, 0, 0), x_0, x_0, (.goto (-45), 54, 6, 0, 0, 0), x_0, x_0, (.return_, 55, 0, 0, 0, 0)])
def mX3_become : XM := (yX3_become, cX3_become, 2, none, [(.aload_n 1, 1, 0, 0, 0, 0), (.getfield 9, 4, 0, 0, 3, 175), x_0, x_0, (.iconst 0, 5, 0, 0, 0, 0), (.aload_n 0, 6, 0, 0, 0, 0), (.getfield 9, 9, 0, 0, 3, 175), x_0, x_0, (.iconst 0, 10, 0, 0, 0, 0), (.bipush 40, 12, 0, 0, 0, 0), x_0, (.invokestatic 52, 15, 9999, 5, 0, 630), x_0, x_0, (.aload_n 0, 16, 0, 0, 0, 0), (.aload_n 1, 17, 0, 0, 0, 0), (.getfield 15, 20, 0, 1, 3, 176), x_0, x_0, (.putfield 15, 23, 0, 1, 3, 176), x_0, x_0, (.aload_n 0, 24, 0, 0, 0, 0), (.aload_n 1, 25, 0, 0, 0, 0), (.getfield 19, 28, 0, 2, 3, 177), x_0, x_0, (.putfield 19, 31, 0, 2, 3, 177), x_0, x_0, (.aload_n 0, 32, 0, 0, 0, 0), (.aload_n 1, 33, 0, 0, 0, 0), (.getfield 22, 36, 0, 3, 3, 178), x_0, x_0, (.putfield 22, 39, 0, 3, 3, 178), x_0, x_0, (.aload_n 0, 40, 0, 0, 0, 0), (.aload_n 1, 41, 0, 0, 0, 0), (.getfield 25, 44, 0, 4, 3, 179), x_0, x_0, (.putfield 25, 47, 0, 4, 3, 179), x_0, x_0, (.return_, 48, 0, 0, 0, 0)])
def mX3_note : XM := (yX3_note, cX3_note, 2, none, [(.aload_n 0, 1, 0, 0, 0, 0), (.iconst 1, 2, 0, 0, 0, 0), (.invokevirtual 58, 5, 47, 1, 3, 590), x_0, x_0, (.ifCond .eq 23, 8, 28, 0, 0, 0), x_0, x_0, (.aload_n 0, 9, 0, 0, 0, 0), (.getfield 9, 12, 0, 0, 3, 175), x_0, x_0, (.aload_n 0, 13, 0, 0, 0, 0), (.getfield 15, 16, 0, 1, 3, 176), x_0, x_0, (.iload_n 1, 17, 0, 0, 0, 0), (.iastore, 18, 0, 0, 0, 0), (.aload_n 0, 19, 0, 0, 0, 0), (.dup, 20, 0, 0, 0, 0), (.getfield 15, 23, 0, 1, 3, 176), x_0, x_0, (.iconst 1, 24, 0, 0, 0, 0), (.iadd, 25, 0, 0, 0, 0), (.putfield 15, 28, 0, 1, 3, 176), x_0, x_0, (.return_, 29, 0, 0, 0, 0)])
def mX4_init : XM := (yX4_init, cX4_init, 1, none, [(.aload_n 0, 1, 0, 0, 0, 0), (.invokespecial 3, 4, 9998, 0, 0, 115), x_0, x_0, (.aload_n 0, 5, 0, 0, 0, 0), (.bipush 20, 7, 0, 0, 0, 0), x_0, (.newarray .int, 9, 0, 0, 0, 0), x_0, (.putfield 11, 12, 0, 0, 4, 116), x_0, x_0, (.aload_n 0, 13, 0, 0, 0, 0), (.iconst 0, 14, 0, 0, 0, 0), (.putfield 15, 17, 0, 1, 4, 117), x_0, x_0, (.aload_n 0, 18, 0, 0, 0, 0), (.iconst 0, 19, 0, 0, 0, 0), (.putfield 19, 22, 0, 2, 4, 118), x_0, x_0, (.aload_n 0, 23, 0, 0, 0, 0), (.iconst 0, 24, 0, 0, 0, 0), (.putfield 22, 27, 0, 3, 4, 119), x_0, x_0, (.aload_n 0, 28, 0, 0, 0, 0), (.iconst 0, 29, 0, 0, 0, 0), (.putfield 25, 32, 0, 4, 4, 120), x_0, x_0, (.aload_n 0, 33, 0, 0, 0, 0), (.iconst 0, 34, 0, 0, 0, 0), (.putfield 28, 37, 0, 5, 4, 121), x_0, x_0, (.return_, 38, 0, 0, 0, 0)])
def mX4_faultOf : XM := (yX4_faultOf, cX4_faultOf, 3, (some (.int)), [(.aload_n 0, 1, 0, 0, 0, 0), (.iconst 0, 2, 0, 0, 0, 0), (.putfield 25, 5, 0, 4, 4, 120), x_0, x_0, (.aload_n 0, 6, 0, 0, 0, 0), (.iconst 0, 7, 0, 0, 0, 0), (.putfield 28, 10, 0, 5, 4, 121), x_0, x_0, (.aload_n 0, 11, 0, 0, 0, 0), (.iconst 0, 12, 0, 0, 0, 0), (.putfield 22, 15, 0, 3, 4, 119), x_0, x_0, (.aload_n 0, 16, 0, 0, 0, 0), (.aload_n 1, 17, 0, 0, 0, 0), (.invokevirtual 32, 20, 57, 1, 4, 426), x_0, x_0, (.aload_n 0, 21, 0, 0, 0, 0), (.aload_n 1, 22, 0, 0, 0, 0), (.invokevirtual 36, 25, 58, 1, 4, 432), x_0, x_0, (.aload_n 0, 26, 0, 0, 0, 0), (.aload_n 0, 27, 0, 0, 0, 0), (.aload_n 1, 28, 0, 0, 0, 0), (.iconst 1, 29, 0, 0, 0, 0), (.iconst 5, 30, 0, 0, 0, 0), (.invokevirtual 39, 33, 61, 3, 4, 440), x_0, x_0, (.putfield 15, 36, 0, 1, 4, 117), x_0, x_0, (.aload_n 0, 37, 0, 0, 0, 0), (.aload_n 0, 38, 0, 0, 0, 0), (.aload_n 1, 39, 0, 0, 0, 0), (.invokevirtual 43, 42, 60, 1, 4, 444), x_0, x_0, (.putfield 19, 45, 0, 2, 4, 118), x_0, x_0, (.aload_n 0, 46, 0, 0, 0, 0), (.aload_n 1, 47, 0, 0, 0, 0), (.invokevirtual 32, 50, 57, 1, 4, 426), x_0, x_0, (.iconst 0, 51, 0, 0, 0, 0), (.istore_n 2, 52, 0, 0, 0, 0), (.iload_n 2, 53, 0, 0, 0, 0), (.iconst 5, 54, 0, 0, 0, 0), (.if_icmp .ge 42, 57, 96, 0, 0, 0), x_0, x_0, (.aload_n 0, 58, 0, 0, 0, 0), (.getfield 28, 61, 0, 5, 4, 121), x_0, x_0, (.ifCond .ne 35, 64, 96, 0, 0, 0), x_0, x_0, (.iload_n 2, 65, 0, 0, 0, 0), (.ifCond .eq 14, 68, 79, 0, 0, 0), x_0, x_0, (.aload_n 0, 69, 0, 0, 0, 0), (.getfield 25, 72, 0, 4, 4, 120), x_0, x_0, (.aload_n 1, 73, 0, 0, 0, 0), (.invokevirtual 47, 76, 26, 0, 2, 430), x_0, x_0, (.if_icmp .ge 14, 79, 90, 0, 0, 0), x_0, x_0, (.aload_n 0, 80, 0, 0, 0, 0), (.aload_n 1, 81, 0, 0, 0, 0), (.iload_n 2, 82, 0, 0, 0, 0), (.invokevirtual 53, 85, 56, 2, 4, 448), x_0, x_0, (.aload_n 0, 86, 0, 0, 0, 0), (.aload_n 1, 87, 0, 0, 0, 0), (.invokevirtual 32, 90, 57, 1, 4, 426), x_0, x_0, (.iinc 2 1, 93, 0, 0, 0, 0), x_0, x_0, (.goto (-41), 96, 52, 0, 0, 0), x_0, x_0, (.aload_n 0, 97, 0, 0, 0, 0), (.getfield 28, 100, 0, 5, 4, 121), x_0, x_0, (.ifCond .ne 14, 103, 114, 0, 0, 0), x_0, x_0, (.aload_n 0, 104, 0, 0, 0, 0), (.getfield 25, 107, 0, 4, 4, 120), x_0, x_0, (.aload_n 1, 108, 0, 0, 0, 0), (.invokevirtual 47, 111, 26, 0, 2, 430), x_0, x_0, (.if_icmp .ge 10, 114, 121, 0, 0, 0), x_0, x_0, (.aload_n 0, 115, 0, 0, 0, 0), (.getfield 25, 118, 0, 4, 4, 120), x_0, x_0, (.goto 5, 121, 123, 0, 0, 0), x_0, x_0, (.bipush (-9), 123, 0, 0, 0, 0), x_0, (.ireturn, 124, 0, 0, 0, 0)])
def mX4_build : XM := (yX4_build, cX4_build, 5, (some (.int)), [(.aload_n 1, 1, 0, 0, 0, 0), (.aload_n 0, 2, 0, 0, 0, 0), (.getfield 15, 5, 0, 1, 4, 117), x_0, x_0, (.aload_n 0, 6, 0, 0, 0, 0), (.getfield 19, 9, 0, 2, 4, 118), x_0, x_0, (.invokevirtual 57, 12, 70, 2, 6, 466), x_0, x_0, (.iconst 0, 13, 0, 0, 0, 0), (.istore_n 3, 14, 0, 0, 0, 0), (.iload_n 3, 15, 0, 0, 0, 0), (.aload_n 0, 16, 0, 0, 0, 0), (.getfield 22, 19, 0, 3, 4, 119), x_0, x_0, (.if_icmp .ge 65, 22, 84, 0, 0, 0), x_0, x_0, (.iload_n 3, 23, 0, 0, 0, 0), (.aload_n 2, 24, 0, 0, 0, 0), (.arraylength, 25, 0, 0, 0, 0), (.if_icmp .ge 59, 28, 84, 0, 0, 0), x_0, x_0, (.iload_n 3, 29, 0, 0, 0, 0), (.iconst 5, 30, 0, 0, 0, 0), (.if_icmp .ge 54, 33, 84, 0, 0, 0), x_0, x_0, (.iload_n 3, 34, 0, 0, 0, 0), (.iconst 4, 35, 0, 0, 0, 0), (.imul, 36, 0, 0, 0, 0), (.istore 4, 38, 0, 0, 0, 0), x_0, (.aload_n 2, 39, 0, 0, 0, 0), (.iload_n 3, 40, 0, 0, 0, 0), (.aaload, 41, 0, 0, 0, 0), (.aload_n 0, 42, 0, 0, 0, 0), (.getfield 11, 45, 0, 0, 4, 116), x_0, x_0, (.iload 4, 47, 0, 0, 0, 0), x_0, (.iaload, 48, 0, 0, 0, 0), (.aload_n 0, 49, 0, 0, 0, 0), (.getfield 11, 52, 0, 0, 4, 116), x_0, x_0, (.iload 4, 54, 0, 0, 0, 0), x_0, (.iconst 1, 55, 0, 0, 0, 0), (.iadd, 56, 0, 0, 0, 0), (.iaload, 57, 0, 0, 0, 0), (.aload_n 0, 58, 0, 0, 0, 0), (.getfield 11, 61, 0, 0, 4, 116), x_0, x_0, (.iload 4, 63, 0, 0, 0, 0), x_0, (.iconst 2, 64, 0, 0, 0, 0), (.iadd, 65, 0, 0, 0, 0), (.iaload, 66, 0, 0, 0, 0), (.aload_n 0, 67, 0, 0, 0, 0), (.getfield 11, 70, 0, 0, 4, 116), x_0, x_0, (.iload 4, 72, 0, 0, 0, 0), x_0, (.iconst 3, 73, 0, 0, 0, 0), (.iadd, 74, 0, 0, 0, 0), (.iaload, 75, 0, 0, 0, 0), (.invokevirtual 63, 78, 12, 4, 1, 470), x_0, x_0, (.iinc 3 1, 81, 0, 0, 0, 0), x_0, x_0, (.goto (-67), 84, 14, 0, 0, 0), x_0, x_0, (.aload_n 0, 85, 0, 0, 0, 0), (.getfield 22, 88, 0, 3, 4, 119), x_0, x_0, (.ireturn, 89, 0, 0, 0, 0)])
def mX4_readLight : XM := (yX4_readLight, cX4_readLight, 4, none, [(.iload_n 2, 1, 0, 0, 0, 0), (.iconst 4, 2, 0, 0, 0, 0), (.imul, 3, 0, 0, 0, 0), (.istore_n 3, 4, 0, 0, 0, 0), (.aload_n 0, 5, 0, 0, 0, 0), (.getfield 11, 8, 0, 0, 4, 116), x_0, x_0, (.iload_n 3, 9, 0, 0, 0, 0), (.aload_n 0, 10, 0, 0, 0, 0), (.aload_n 1, 11, 0, 0, 0, 0), (.invokevirtual 68, 14, 59, 1, 4, 452), x_0, x_0, (.iastore, 15, 0, 0, 0, 0), (.aload_n 0, 16, 0, 0, 0, 0), (.getfield 11, 19, 0, 0, 4, 116), x_0, x_0, (.iload_n 3, 20, 0, 0, 0, 0), (.iconst 1, 21, 0, 0, 0, 0), (.iadd, 22, 0, 0, 0, 0), (.aload_n 0, 23, 0, 0, 0, 0), (.aload_n 1, 24, 0, 0, 0, 0), (.invokevirtual 43, 27, 60, 1, 4, 444), x_0, x_0, (.iastore, 28, 0, 0, 0, 0), (.aload_n 0, 29, 0, 0, 0, 0), (.getfield 11, 32, 0, 0, 4, 116), x_0, x_0, (.iload_n 3, 33, 0, 0, 0, 0), (.iconst 2, 34, 0, 0, 0, 0), (.iadd, 35, 0, 0, 0, 0), (.aload_n 0, 36, 0, 0, 0, 0), (.aload_n 1, 37, 0, 0, 0, 0), (.iconst 0, 38, 0, 0, 0, 0), (.iconst 5, 39, 0, 0, 0, 0), (.invokevirtual 39, 42, 61, 3, 4, 440), x_0, x_0, (.bipush (-2), 44, 0, 0, 0, 0), x_0, (.iadd, 45, 0, 0, 0, 0), (.iastore, 46, 0, 0, 0, 0), (.aload_n 0, 47, 0, 0, 0, 0), (.getfield 11, 50, 0, 0, 4, 116), x_0, x_0, (.iload_n 3, 51, 0, 0, 0, 0), (.iconst 3, 52, 0, 0, 0, 0), (.iadd, 53, 0, 0, 0, 0), (.aload_n 0, 54, 0, 0, 0, 0), (.aload_n 1, 55, 0, 0, 0, 0), (.iconst 1, 56, 0, 0, 0, 0), (.bipush 9, 58, 0, 0, 0, 0), x_0, (.invokevirtual 39, 61, 61, 3, 4, 440), x_0, x_0, (.iastore, 62, 0, 0, 0, 0), (.aload_n 0, 63, 0, 0, 0, 0), (.iload_n 2, 64, 0, 0, 0, 0), (.iconst 1, 65, 0, 0, 0, 0), (.iadd, 66, 0, 0, 0, 0), (.putfield 22, 69, 0, 3, 4, 119), x_0, x_0, (.return_, 70, 0, 0, 0, 0)])
def mX4_skipBlanks : XM := (yX4_skipBlanks, cX4_skipBlanks, 2, none, [(.aload_n 0, 1, 0, 0, 0, 0), (.getfield 28, 4, 0, 5, 4, 121), x_0, x_0, (.ifCond .ne 40, 7, 44, 0, 0, 0), x_0, x_0, (.aload_n 0, 8, 0, 0, 0, 0), (.getfield 25, 11, 0, 4, 4, 120), x_0, x_0, (.aload_n 1, 12, 0, 0, 0, 0), (.invokevirtual 47, 15, 26, 0, 2, 430), x_0, x_0, (.if_icmp .ge 29, 18, 44, 0, 0, 0), x_0, x_0, (.aload_n 1, 19, 0, 0, 0, 0), (.aload_n 0, 20, 0, 0, 0, 0), (.getfield 25, 23, 0, 4, 4, 120), x_0, x_0, (.invokevirtual 71, 26, 32, 1, 2, 431), x_0, x_0, (.bipush 32, 28, 0, 0, 0, 0), x_0, (.if_icmp .ne 16, 31, 44, 0, 0, 0), x_0, x_0, (.aload_n 0, 32, 0, 0, 0, 0), (.dup, 33, 0, 0, 0, 0), (.getfield 25, 36, 0, 4, 4, 120), x_0, x_0, (.iconst 1, 37, 0, 0, 0, 0), (.iadd, 38, 0, 0, 0, 0), (.putfield 25, 41, 0, 4, 4, 120), x_0, x_0, (.goto (-41), 44, 0, 0, 0, 0), x_0, x_0, (.return_, 45, 0, 0, 0, 0)])
def mX4_readDomeLetter : XM := (yX4_readDomeLetter, cX4_readDomeLetter, 2, none, [(.aload_n 0, 1, 0, 0, 0, 0), (.aload_n 0, 2, 0, 0, 0, 0), (.getfield 25, 5, 0, 4, 4, 120), x_0, x_0, (.aload_n 1, 6, 0, 0, 0, 0), (.invokevirtual 47, 9, 26, 0, 2, 430), x_0, x_0, (.if_icmp .ge 20, 12, 29, 0, 0, 0), x_0, x_0, (.aload_n 1, 13, 0, 0, 0, 0), (.aload_n 0, 14, 0, 0, 0, 0), (.getfield 25, 17, 0, 4, 4, 120), x_0, x_0, (.invokevirtual 71, 20, 32, 1, 2, 431), x_0, x_0, (.bipush 111, 22, 0, 0, 0, 0), x_0, (.if_icmp .ne 7, 25, 29, 0, 0, 0), x_0, x_0, (.iconst 1, 26, 0, 0, 0, 0), (.goto 4, 29, 30, 0, 0, 0), x_0, x_0, (.iconst 0, 30, 0, 0, 0, 0), (.invokevirtual 75, 33, 62, 1, 4, 436), x_0, x_0, (.return_, 34, 0, 0, 0, 0)])
def mX4_kindLetter : XM := (yX4_kindLetter, cX4_kindLetter, 4, (some (.int)), [(.iconst (-1), 1, 0, 0, 0, 0), (.istore_n 2, 2, 0, 0, 0, 0), (.iconst 0, 3, 0, 0, 0, 0), (.istore_n 3, 4, 0, 0, 0, 0), (.iload_n 3, 5, 0, 0, 0, 0), (.getstatic 79, 8, 0, 0, 0, 456), x_0, x_0, (.arraylength, 9, 0, 0, 0, 0), (.if_icmp .ge 38, 12, 47, 0, 0, 0), x_0, x_0, (.aload_n 0, 13, 0, 0, 0, 0), (.getfield 25, 16, 0, 4, 4, 120), x_0, x_0, (.aload_n 1, 17, 0, 0, 0, 0), (.invokevirtual 47, 20, 26, 0, 2, 430), x_0, x_0, (.if_icmp .ge 27, 23, 47, 0, 0, 0), x_0, x_0, (.aload_n 1, 24, 0, 0, 0, 0), (.aload_n 0, 25, 0, 0, 0, 0), (.getfield 25, 28, 0, 4, 4, 120), x_0, x_0, (.invokevirtual 71, 31, 32, 1, 2, 431), x_0, x_0, (.getstatic 79, 34, 0, 0, 0, 456), x_0, x_0, (.iload_n 3, 35, 0, 0, 0, 0), (.iaload, 36, 0, 0, 0, 0), (.if_icmp .ne 5, 39, 41, 0, 0, 0), x_0, x_0, (.iload_n 3, 40, 0, 0, 0, 0), (.istore_n 2, 41, 0, 0, 0, 0), (.iinc 3 1, 44, 0, 0, 0, 0), x_0, x_0, (.goto (-40), 47, 4, 0, 0, 0), x_0, x_0, (.aload_n 0, 48, 0, 0, 0, 0), (.iload_n 2, 49, 0, 0, 0, 0), (.iconst (-1), 50, 0, 0, 0, 0), (.if_icmp .eq 7, 53, 57, 0, 0, 0), x_0, x_0, (.iconst 1, 54, 0, 0, 0, 0), (.goto 4, 57, 58, 0, 0, 0), x_0, x_0, (.iconst 0, 58, 0, 0, 0, 0), (.invokevirtual 75, 61, 62, 1, 4, 436), x_0, x_0, (.iload_n 2, 62, 0, 0, 0, 0), (.ireturn, 63, 0, 0, 0, 0)])
def mX4_placeFigures : XM := (yX4_placeFigures, cX4_placeFigures, 3, (some (.int)), [(.aload_n 0, 1, 0, 0, 0, 0), (.aload_n 1, 2, 0, 0, 0, 0), (.iconst 0, 3, 0, 0, 0, 0), (.iconst 2, 4, 0, 0, 0, 0), (.invokevirtual 39, 7, 61, 3, 4, 440), x_0, x_0, (.istore_n 2, 8, 0, 0, 0, 0), (.bipush 10, 10, 0, 0, 0, 0), x_0, (.iload_n 2, 11, 0, 0, 0, 0), (.imul, 12, 0, 0, 0, 0), (.aload_n 0, 13, 0, 0, 0, 0), (.aload_n 1, 14, 0, 0, 0, 0), (.iconst 0, 15, 0, 0, 0, 0), (.iload_n 2, 16, 0, 0, 0, 0), (.iconst 2, 17, 0, 0, 0, 0), (.if_icmp .ne 7, 20, 24, 0, 0, 0), x_0, x_0, (.iconst 3, 21, 0, 0, 0, 0), (.goto 5, 24, 26, 0, 0, 0), x_0, x_0, (.bipush 9, 26, 0, 0, 0, 0), x_0, (.invokevirtual 39, 29, 61, 3, 4, 440), x_0, x_0, (.iadd, 30, 0, 0, 0, 0), (.ireturn, 31, 0, 0, 0, 0)])
def mX4_figure : XM := (yX4_figure, cX4_figure, 5, (some (.int)), [(.aload_n 1, 1, 0, 0, 0, 0), (.aload_n 0, 2, 0, 0, 0, 0), (.getfield 25, 5, 0, 4, 4, 120), x_0, x_0, (.invokevirtual 71, 8, 32, 1, 2, 431), x_0, x_0, (.bipush 48, 10, 0, 0, 0, 0), x_0, (.isub, 11, 0, 0, 0, 0), (.istore 4, 13, 0, 0, 0, 0), x_0, (.aload_n 0, 14, 0, 0, 0, 0), (.aload_n 0, 15, 0, 0, 0, 0), (.getfield 25, 18, 0, 4, 4, 120), x_0, x_0, (.aload_n 1, 19, 0, 0, 0, 0), (.invokevirtual 47, 22, 26, 0, 2, 430), x_0, x_0, (.if_icmp .ge 19, 25, 41, 0, 0, 0), x_0, x_0, (.iload 4, 27, 0, 0, 0, 0), x_0, (.iload_n 2, 28, 0, 0, 0, 0), (.if_icmp .lt 13, 31, 41, 0, 0, 0), x_0, x_0, (.iload 4, 33, 0, 0, 0, 0), x_0, (.iload_n 3, 34, 0, 0, 0, 0), (.if_icmp .gt 7, 37, 41, 0, 0, 0), x_0, x_0, (.iconst 1, 38, 0, 0, 0, 0), (.goto 4, 41, 42, 0, 0, 0), x_0, x_0, (.iconst 0, 42, 0, 0, 0, 0), (.invokevirtual 75, 45, 62, 1, 4, 436), x_0, x_0, (.iload 4, 47, 0, 0, 0, 0), x_0, (.ireturn, 48, 0, 0, 0, 0)])
def mX4_goOnIf : XM := (yX4_goOnIf, cX4_goOnIf, 2, none, [(.aload_n 0, 1, 0, 0, 0, 0), (.aload_n 0, 2, 0, 0, 0, 0), (.getfield 28, 5, 0, 5, 4, 121), x_0, x_0, (.ifCond .ne 7, 8, 12, 0, 0, 0), x_0, x_0, (.iload_n 1, 9, 0, 0, 0, 0), (.ifCond .ne 7, 12, 16, 0, 0, 0), x_0, x_0, (.iconst 1, 13, 0, 0, 0, 0), (.goto 4, 16, 17, 0, 0, 0), x_0, x_0, (.iconst 0, 17, 0, 0, 0, 0), (.putfield 28, 20, 0, 5, 4, 121), x_0, x_0, (.aload_n 0, 21, 0, 0, 0, 0), (.dup, 22, 0, 0, 0, 0), (.getfield 25, 25, 0, 4, 4, 120), x_0, x_0, (.aload_n 0, 26, 0, 0, 0, 0), (.getfield 28, 29, 0, 5, 4, 121), x_0, x_0, (.ifCond .eq 7, 32, 36, 0, 0, 0), x_0, x_0, (.iconst 0, 33, 0, 0, 0, 0), (.goto 4, 36, 37, 0, 0, 0), x_0, x_0, (.iconst 1, 37, 0, 0, 0, 0), (.iadd, 38, 0, 0, 0, 0), (.putfield 25, 41, 0, 4, 4, 120), x_0, x_0, (.return_, 42, 0, 0, 0, 0)])
def mX5_init : XM := (yX5_init, cX5_init, 2, none, [(.aload_n 0, 1, 0, 0, 0, 0), (.invokespecial 3, 4, 9998, 0, 0, 226), x_0, x_0, (.aload_n 0, 5, 0, 0, 0, 0), (.bipush 24, 7, 0, 0, 0, 0), x_0, (.newarray .long, 9, 0, 0, 0, 0), x_0, (.putfield 9, 12, 0, 1, 5, 228), x_0, x_0, (.aload_n 0, 13, 0, 0, 0, 0), (.bipush 24, 15, 0, 0, 0, 0), x_0, (.newarray .long, 17, 0, 0, 0, 0), x_0, (.putfield 15, 20, 0, 2, 5, 229), x_0, x_0, (.aload_n 0, 21, 0, 0, 0, 0), (.lconst 1, 22, 0, 0, 0, 0), (.putfield 18, 25, 0, 3, 5, 230), x_0, x_0, (.aload_n 0, 26, 0, 0, 0, 0), (.aload_n 1, 27, 0, 0, 0, 0), (.putfield 22, 30, 0, 0, 5, 227), x_0, x_0, (.return_, 31, 0, 0, 0, 0)])
def mX5_whole : XM := (yX5_whole, cX5_whole, 1, (some (.long)), [(.aload_n 0, 1, 0, 0, 0, 0), (.getfield 18, 4, 0, 3, 5, 230), x_0, x_0, (.lreturn, 5, 0, 0, 0, 0)])
def mX5_weigh : XM := (yX5_weigh, cX5_weigh, 8, (some (.long)), [(.aload_n 0, 1, 0, 0, 0, 0), (.getfield 9, 4, 0, 1, 5, 228), x_0, x_0, (.lconst 0, 5, 0, 0, 0, 0), (.invokestatic 26, 8, 256, 2, 0, 840), x_0, x_0, (.aload_n 0, 9, 0, 0, 0, 0), (.getfield 9, 12, 0, 1, 5, 228), x_0, x_0, (.iload_n 1, 13, 0, 0, 0, 0), (.invokestatic 32, 16, 123, 1, 8, 843), x_0, x_0, (.lconst 1, 17, 0, 0, 0, 0), (.lastore, 18, 0, 0, 0, 0), (.aload_n 0, 19, 0, 0, 0, 0), (.lconst 1, 20, 0, 0, 0, 0), (.putfield 18, 23, 0, 3, 5, 230), x_0, x_0, (.lconst 0, 24, 0, 0, 0, 0), (.lstore 5, 26, 0, 0, 0, 0), x_0, (.iconst 0, 27, 0, 0, 0, 0), (.istore 7, 29, 0, 0, 0, 0), x_0, (.iload 7, 31, 0, 0, 0, 0), x_0, (.aload_n 2, 32, 0, 0, 0, 0), (.invokevirtual 36, 35, 26, 0, 2, 844), x_0, x_0, (.if_icmp .ge 49, 38, 84, 0, 0, 0), x_0, x_0, (.aload_n 0, 39, 0, 0, 0, 0), (.aload_n 2, 40, 0, 0, 0, 0), (.iload 7, 42, 0, 0, 0, 0), x_0, (.invokevirtual 42, 45, 32, 1, 2, 845), x_0, x_0, (.iload_n 3, 46, 0, 0, 0, 0), (.invokevirtual 45, 49, 66, 2, 5, 846), x_0, x_0, (.aload_n 0, 50, 0, 0, 0, 0), (.dup, 51, 0, 0, 0, 0), (.getfield 18, 54, 0, 3, 5, 230), x_0, x_0, (.ldc2_w 49, 57, 12, 0, 0, 850), x_0, x_0, (.lmul, 58, 0, 0, 0, 0), (.putfield 18, 61, 0, 3, 5, 230), x_0, x_0, (.lload 5, 63, 0, 0, 0, 0), x_0, (.ldc2_w 49, 66, 12, 0, 0, 850), x_0, x_0, (.lmul, 67, 0, 0, 0, 0), (.aload_n 0, 68, 0, 0, 0, 0), (.iload 7, 70, 0, 0, 0, 0), x_0, (.iload 4, 72, 0, 0, 0, 0), x_0, (.invokevirtual 51, 75, 67, 2, 5, 851), x_0, x_0, (.ladd, 76, 0, 0, 0, 0), (.lstore 5, 78, 0, 0, 0, 0), x_0, (.iinc 7 1, 81, 0, 0, 0, 0), x_0, x_0, (.goto (-52), 84, 29, 0, 0, 0), x_0, x_0, (.iload 4, 86, 0, 0, 0, 0), x_0, (.ifCond .eq 10, 89, 96, 0, 0, 0), x_0, x_0, (.aload_n 0, 90, 0, 0, 0, 0), (.invokevirtual 55, 93, 68, 0, 5, 856), x_0, x_0, (.goto 5, 96, 98, 0, 0, 0), x_0, x_0, (.lload 5, 98, 0, 0, 0, 0), x_0, (.lreturn, 99, 0, 0, 0, 0)])
def mX5_spread : XM := (yX5_spread, cX5_spread, 4, none, [(.aload_n 0, 1, 0, 0, 0, 0), (.getfield 15, 4, 0, 2, 5, 229), x_0, x_0, (.lconst 0, 5, 0, 0, 0, 0), (.invokestatic 26, 8, 256, 2, 0, 840), x_0, x_0, (.iconst 0, 9, 0, 0, 0, 0), (.istore_n 3, 10, 0, 0, 0, 0), (.iload_n 3, 11, 0, 0, 0, 0), (.bipush 24, 13, 0, 0, 0, 0), x_0, (.if_icmp .ge 53, 16, 66, 0, 0, 0), x_0, x_0, (.aload_n 0, 17, 0, 0, 0, 0), (.getfield 15, 20, 0, 2, 5, 229), x_0, x_0, (.iload_n 3, 21, 0, 0, 0, 0), (.dup2, 22, 0, 0, 0, 0), (.laload, 23, 0, 0, 0, 0), (.aload_n 0, 24, 0, 0, 0, 0), (.getfield 9, 27, 0, 1, 5, 228), x_0, x_0, (.iload_n 3, 28, 0, 0, 0, 0), (.laload, 29, 0, 0, 0, 0), (.iload_n 2, 30, 0, 0, 0, 0), (.i2l, 31, 0, 0, 0, 0), (.lmul, 32, 0, 0, 0, 0), (.ladd, 33, 0, 0, 0, 0), (.lastore, 34, 0, 0, 0, 0), (.aload_n 0, 35, 0, 0, 0, 0), (.getfield 15, 38, 0, 2, 5, 229), x_0, x_0, (.iload_n 3, 39, 0, 0, 0, 0), (.iload_n 1, 40, 0, 0, 0, 0), (.iadd, 41, 0, 0, 0, 0), (.invokestatic 32, 44, 123, 1, 8, 843), x_0, x_0, (.dup2, 45, 0, 0, 0, 0), (.laload, 46, 0, 0, 0, 0), (.aload_n 0, 47, 0, 0, 0, 0), (.getfield 9, 50, 0, 1, 5, 228), x_0, x_0, (.iload_n 3, 51, 0, 0, 0, 0), (.laload, 52, 0, 0, 0, 0), (.bipush 12, 54, 0, 0, 0, 0), x_0, (.iload_n 2, 55, 0, 0, 0, 0), (.isub, 56, 0, 0, 0, 0), (.i2l, 57, 0, 0, 0, 0), (.lmul, 58, 0, 0, 0, 0), (.ladd, 59, 0, 0, 0, 0), (.lastore, 60, 0, 0, 0, 0), (.iinc 3 1, 63, 0, 0, 0, 0), x_0, x_0, (.goto (-53), 66, 10, 0, 0, 0), x_0, x_0, (.aload_n 0, 67, 0, 0, 0, 0), (.getfield 15, 70, 0, 2, 5, 229), x_0, x_0, (.astore_n 3, 71, 0, 0, 0, 0), (.aload_n 0, 72, 0, 0, 0, 0), (.aload_n 0, 73, 0, 0, 0, 0), (.getfield 9, 76, 0, 1, 5, 228), x_0, x_0, (.putfield 15, 79, 0, 2, 5, 229), x_0, x_0, (.aload_n 0, 80, 0, 0, 0, 0), (.aload_n 3, 81, 0, 0, 0, 0), (.putfield 9, 84, 0, 1, 5, 228), x_0, x_0, (.return_, 85, 0, 0, 0, 0)])
def mX5_gotAt : XM := (yX5_gotAt, cX5_gotAt, 7, (some (.long)), [(.lconst 0, 1, 0, 0, 0, 0), (.lstore_n 3, 2, 0, 0, 0, 0), (.iconst 0, 3, 0, 0, 0, 0), (.istore 5, 5, 0, 0, 0, 0), x_0, (.iload 5, 7, 0, 0, 0, 0), x_0, (.bipush 24, 9, 0, 0, 0, 0), x_0, (.if_icmp .ge 52, 12, 61, 0, 0, 0), x_0, x_0, (.aload_n 0, 13, 0, 0, 0, 0), (.getfield 22, 16, 0, 0, 5, 227), x_0, x_0, (.iload_n 1, 17, 0, 0, 0, 0), (.iload 5, 19, 0, 0, 0, 0), x_0, (.invokevirtual 59, 22, 78, 2, 7, 855), x_0, x_0, (.istore 6, 24, 0, 0, 0, 0), x_0, (.lload_n 3, 25, 0, 0, 0, 0), (.aload_n 0, 26, 0, 0, 0, 0), (.getfield 9, 29, 0, 1, 5, 228), x_0, x_0, (.iload 5, 31, 0, 0, 0, 0), x_0, (.laload, 32, 0, 0, 0, 0), (.iload 6, 34, 0, 0, 0, 0), x_0, (.i2l, 35, 0, 0, 0, 0), (.lmul, 36, 0, 0, 0, 0), (.ladd, 37, 0, 0, 0, 0), (.lstore_n 3, 38, 0, 0, 0, 0), (.iload_n 2, 39, 0, 0, 0, 0), (.ifCond .eq 16, 42, 55, 0, 0, 0), x_0, x_0, (.iload 6, 44, 0, 0, 0, 0), x_0, (.ifCond .ne 11, 47, 55, 0, 0, 0), x_0, x_0, (.aload_n 0, 48, 0, 0, 0, 0), (.getfield 9, 51, 0, 1, 5, 228), x_0, x_0, (.iload 5, 53, 0, 0, 0, 0), x_0, (.lconst 0, 54, 0, 0, 0, 0), (.lastore, 55, 0, 0, 0, 0), (.iinc 5 1, 58, 0, 0, 0, 0), x_0, x_0, (.goto (-53), 61, 5, 0, 0, 0), x_0, x_0, (.lload_n 3, 62, 0, 0, 0, 0), (.lreturn, 63, 0, 0, 0, 0)])
def mX5_weightLeft : XM := (yX5_weightLeft, cX5_weightLeft, 4, (some (.long)), [(.lconst 0, 1, 0, 0, 0, 0), (.lstore_n 1, 2, 0, 0, 0, 0), (.iconst 0, 3, 0, 0, 0, 0), (.istore_n 3, 4, 0, 0, 0, 0), (.iload_n 3, 5, 0, 0, 0, 0), (.bipush 24, 7, 0, 0, 0, 0), x_0, (.if_icmp .ge 18, 10, 25, 0, 0, 0), x_0, x_0, (.lload_n 1, 11, 0, 0, 0, 0), (.aload_n 0, 12, 0, 0, 0, 0), (.getfield 9, 15, 0, 1, 5, 228), x_0, x_0, (.iload_n 3, 16, 0, 0, 0, 0), (.laload, 17, 0, 0, 0, 0), (.ladd, 18, 0, 0, 0, 0), (.lstore_n 1, 19, 0, 0, 0, 0), (.iinc 3 1, 22, 0, 0, 0, 0), x_0, x_0, (.goto (-18), 25, 4, 0, 0, 0), x_0, x_0, (.lload_n 1, 26, 0, 0, 0, 0), (.lreturn, 27, 0, 0, 0, 0)])
def mX6_init : XM := (yX6_init, cX6_init, 1, none, [(.aload_n 0, 1, 0, 0, 0, 0), (.invokespecial 3, 4, 9998, 0, 0, 161), x_0, x_0, (.aload_n 0, 5, 0, 0, 0, 0), (.iconst 0, 6, 0, 0, 0, 0), (.putfield 9, 9, 0, 0, 6, 162), x_0, x_0, (.aload_n 0, 10, 0, 0, 0, 0), (.iconst 0, 11, 0, 0, 0, 0), (.putfield 15, 14, 0, 1, 6, 163), x_0, x_0, (.return_, 15, 0, 0, 0, 0)])
def mX6_become : XM := (yX6_become, cX6_become, 3, none, [(.aload_n 0, 1, 0, 0, 0, 0), (.iload_n 1, 2, 0, 0, 0, 0), (.putfield 9, 5, 0, 0, 6, 162), x_0, x_0, (.aload_n 0, 6, 0, 0, 0, 0), (.iload_n 2, 7, 0, 0, 0, 0), (.putfield 15, 10, 0, 1, 6, 163), x_0, x_0, (.return_, 11, 0, 0, 0, 0)])
def mX6_broad : XM := (yX6_broad, cX6_broad, 1, (some (.int)), [(.aload_n 0, 1, 0, 0, 0, 0), (.getfield 9, 4, 0, 0, 6, 162), x_0, x_0, (.ireturn, 5, 0, 0, 0, 0)])
def mX6_times : XM := (yX6_times, cX6_times, 4, (some (.int)), [(.iload_n 2, 1, 0, 0, 0, 0), (.iload_n 1, 2, 0, 0, 0, 0), (.isub, 3, 0, 0, 0, 0), (.invokestatic 18, 6, 123, 1, 8, 545), x_0, x_0, (.istore_n 3, 7, 0, 0, 0, 0), (.iload_n 3, 8, 0, 0, 0, 0), (.aload_n 0, 9, 0, 0, 0, 0), (.getfield 9, 12, 0, 0, 6, 162), x_0, x_0, (.if_icmp .lt 5, 15, 17, 0, 0, 0), x_0, x_0, (.iconst 0, 16, 0, 0, 0, 0), (.ireturn, 17, 0, 0, 0, 0), (.iload_n 3, 18, 0, 0, 0, 0), (.ifCond .eq 13, 21, 31, 0, 0, 0), x_0, x_0, (.iload_n 3, 22, 0, 0, 0, 0), (.aload_n 0, 23, 0, 0, 0, 0), (.getfield 9, 26, 0, 0, 6, 162), x_0, x_0, (.iconst 1, 27, 0, 0, 0, 0), (.isub, 28, 0, 0, 0, 0), (.if_icmp .ne 7, 31, 35, 0, 0, 0), x_0, x_0, (.iconst 1, 32, 0, 0, 0, 0), (.goto 4, 35, 36, 0, 0, 0), x_0, x_0, (.iconst 2, 36, 0, 0, 0, 0), (.ireturn, 37, 0, 0, 0, 0)])
def mX6_gain : XM := (yX6_gain, cX6_gain, 4, (some (.int)), [(.aload_n 0, 1, 0, 0, 0, 0), (.iload_n 1, 2, 0, 0, 0, 0), (.aload_n 2, 3, 0, 0, 0, 0), (.iload_n 3, 4, 0, 0, 0, 0), (.invokevirtual 22, 7, 19, 1, 1, 540), x_0, x_0, (.invokevirtual 27, 10, 72, 2, 6, 541), x_0, x_0, (.aload_n 2, 11, 0, 0, 0, 0), (.iload_n 3, 12, 0, 0, 0, 0), (.invokevirtual 31, 15, 20, 1, 1, 546), x_0, x_0, (.imul, 16, 0, 0, 0, 0), (.ireturn, 17, 0, 0, 0, 0)])
def mX6_effortOf : XM := (yX6_effortOf, cX6_effortOf, 6, (some (.int)), [(.iload_n 2, 1, 0, 0, 0, 0), (.invokestatic 34, 4, 252, 1, 0, 603), x_0, x_0, (.istore_n 3, 5, 0, 0, 0, 0), (.iload_n 2, 6, 0, 0, 0, 0), (.ifCond .ge 12, 9, 18, 0, 0, 0), x_0, x_0, (.iload_n 1, 10, 0, 0, 0, 0), (.aload_n 0, 11, 0, 0, 0, 0), (.getfield 15, 14, 0, 1, 6, 163), x_0, x_0, (.isub, 15, 0, 0, 0, 0), (.goto 9, 18, 24, 0, 0, 0), x_0, x_0, (.aload_n 0, 19, 0, 0, 0, 0), (.getfield 15, 22, 0, 1, 6, 163), x_0, x_0, (.iload_n 1, 23, 0, 0, 0, 0), (.isub, 24, 0, 0, 0, 0), (.invokestatic 18, 27, 123, 1, 8, 545), x_0, x_0, (.istore 4, 29, 0, 0, 0, 0), x_0, (.iload 4, 31, 0, 0, 0, 0), x_0, (.ifCond .le 13, 34, 44, 0, 0, 0), x_0, x_0, (.iload 4, 36, 0, 0, 0, 0), x_0, (.iload_n 3, 37, 0, 0, 0, 0), (.if_icmp .gt 7, 40, 44, 0, 0, 0), x_0, x_0, (.iconst 1, 41, 0, 0, 0, 0), (.goto 4, 44, 45, 0, 0, 0), x_0, x_0, (.iconst 0, 45, 0, 0, 0, 0), (.istore 5, 47, 0, 0, 0, 0), x_0, (.iload 5, 49, 0, 0, 0, 0), x_0, (.ifCond .eq 9, 52, 58, 0, 0, 0), x_0, x_0, (.iload_n 3, 53, 0, 0, 0, 0), (.iconst 4, 54, 0, 0, 0, 0), (.iadd, 55, 0, 0, 0, 0), (.goto 4, 58, 59, 0, 0, 0), x_0, x_0, (.iload_n 3, 59, 0, 0, 0, 0), (.ireturn, 60, 0, 0, 0, 0)])
def mX6_leastWayToBest : XM := (yX6_leastWayToBest, cX6_leastWayToBest, 5, (some (.int)), [(.aload_n 0, 1, 0, 0, 0, 0), (.getfield 9, 4, 0, 0, 6, 162), x_0, x_0, (.iconst 2, 5, 0, 0, 0, 0), (.if_icmp .le 7, 8, 12, 0, 0, 0), x_0, x_0, (.iconst 2, 9, 0, 0, 0, 0), (.goto 4, 12, 13, 0, 0, 0), x_0, x_0, (.iconst 1, 13, 0, 0, 0, 0), (.istore_n 3, 14, 0, 0, 0, 0), (.iconst 0, 15, 0, 0, 0, 0), (.istore 4, 17, 0, 0, 0, 0), x_0, (.iload 4, 19, 0, 0, 0, 0), x_0, (.bipush 12, 21, 0, 0, 0, 0), x_0, (.if_icmp .ge 41, 24, 62, 0, 0, 0), x_0, x_0, (.aload_n 0, 25, 0, 0, 0, 0), (.iload_n 1, 26, 0, 0, 0, 0), (.iload 4, 28, 0, 0, 0, 0), x_0, (.iadd, 29, 0, 0, 0, 0), (.invokestatic 18, 32, 123, 1, 8, 545), x_0, x_0, (.iload_n 2, 33, 0, 0, 0, 0), (.invokevirtual 27, 36, 72, 2, 6, 541), x_0, x_0, (.iload_n 3, 37, 0, 0, 0, 0), (.if_icmp .eq 25, 40, 62, 0, 0, 0), x_0, x_0, (.aload_n 0, 41, 0, 0, 0, 0), (.iload_n 1, 42, 0, 0, 0, 0), (.iload 4, 44, 0, 0, 0, 0), x_0, (.isub, 45, 0, 0, 0, 0), (.invokestatic 18, 48, 123, 1, 8, 545), x_0, x_0, (.iload_n 2, 49, 0, 0, 0, 0), (.invokevirtual 27, 52, 72, 2, 6, 541), x_0, x_0, (.iload_n 3, 53, 0, 0, 0, 0), (.if_icmp .eq 9, 56, 62, 0, 0, 0), x_0, x_0, (.iinc 4 1, 59, 0, 0, 0, 0), x_0, x_0, (.goto (-42), 62, 17, 0, 0, 0), x_0, x_0, (.iload 4, 64, 0, 0, 0, 0), x_0, (.ireturn, 65, 0, 0, 0, 0)])
def mX7_init : XM := (yX7_init, cX7_init, 1, none, [(.aload_n 0, 1, 0, 0, 0, 0), (.invokespecial 3, 4, 9998, 0, 0, 197), x_0, x_0, (.aload_n 0, 5, 0, 0, 0, 0), (.sipush 192, 8, 0, 0, 0, 0), x_0, x_0, (.newarray .int, 10, 0, 0, 0, 0), x_0, (.putfield 9, 13, 0, 0, 7, 198), x_0, x_0, (.return_, 14, 0, 0, 0, 0)])
def mX7_fill : XM := (yX7_fill, cX7_fill, 9, none, [(.iconst 0, 1, 0, 0, 0, 0), (.istore 5, 3, 0, 0, 0, 0), x_0, (.iload 5, 5, 0, 0, 0, 0), x_0, (.iload 4, 7, 0, 0, 0, 0), x_0, (.if_icmp .ge 76, 10, 83, 0, 0, 0), x_0, x_0, (.iload 5, 12, 0, 0, 0, 0), x_0, (.bipush 8, 14, 0, 0, 0, 0), x_0, (.if_icmp .ge 69, 17, 83, 0, 0, 0), x_0, x_0, (.aload_n 1, 18, 0, 0, 0, 0), (.iload_n 3, 19, 0, 0, 0, 0), (.iload 5, 21, 0, 0, 0, 0), x_0, (.iadd, 22, 0, 0, 0, 0), (.invokevirtual 15, 25, 19, 1, 1, 683), x_0, x_0, (.istore 6, 27, 0, 0, 0, 0), x_0, (.aload_n 1, 28, 0, 0, 0, 0), (.iload_n 3, 29, 0, 0, 0, 0), (.iload 5, 31, 0, 0, 0, 0), x_0, (.iadd, 32, 0, 0, 0, 0), (.invokevirtual 21, 35, 20, 1, 1, 684), x_0, x_0, (.istore 7, 37, 0, 0, 0, 0), x_0, (.iconst 0, 38, 0, 0, 0, 0), (.istore 8, 40, 0, 0, 0, 0), x_0, (.iload 8, 42, 0, 0, 0, 0), x_0, (.bipush 24, 44, 0, 0, 0, 0), x_0, (.if_icmp .ge 33, 47, 77, 0, 0, 0), x_0, x_0, (.aload_n 0, 48, 0, 0, 0, 0), (.getfield 9, 51, 0, 0, 7, 198), x_0, x_0, (.iload 5, 53, 0, 0, 0, 0), x_0, (.bipush 24, 55, 0, 0, 0, 0), x_0, (.imul, 56, 0, 0, 0, 0), (.iload 8, 58, 0, 0, 0, 0), x_0, (.iadd, 59, 0, 0, 0, 0), (.aload_n 2, 60, 0, 0, 0, 0), (.iload 8, 62, 0, 0, 0, 0), x_0, (.iload 6, 64, 0, 0, 0, 0), x_0, (.invokevirtual 24, 67, 72, 2, 6, 685), x_0, x_0, (.iload 7, 69, 0, 0, 0, 0), x_0, (.imul, 70, 0, 0, 0, 0), (.iastore, 71, 0, 0, 0, 0), (.iinc 8 1, 74, 0, 0, 0, 0), x_0, x_0, (.goto (-34), 77, 40, 0, 0, 0), x_0, x_0, (.iinc 5 1, 80, 0, 0, 0, 0), x_0, x_0, (.goto (-77), 83, 3, 0, 0, 0), x_0, x_0, (.return_, 84, 0, 0, 0, 0)])
def mX7_gain : XM := (yX7_gain, cX7_gain, 3, (some (.int)), [(.iload_n 1, 1, 0, 0, 0, 0), (.ifCond .lt 26, 4, 27, 0, 0, 0), x_0, x_0, (.iload_n 1, 5, 0, 0, 0, 0), (.bipush 8, 7, 0, 0, 0, 0), x_0, (.if_icmp .ge 20, 10, 27, 0, 0, 0), x_0, x_0, (.aload_n 0, 11, 0, 0, 0, 0), (.getfield 9, 14, 0, 0, 7, 198), x_0, x_0, (.iload_n 1, 15, 0, 0, 0, 0), (.bipush 24, 17, 0, 0, 0, 0), x_0, (.imul, 18, 0, 0, 0, 0), (.iload_n 2, 19, 0, 0, 0, 0), (.invokestatic 30, 22, 123, 1, 8, 706), x_0, x_0, (.iadd, 23, 0, 0, 0, 0), (.iaload, 24, 0, 0, 0, 0), (.goto 4, 27, 28, 0, 0, 0), x_0, x_0, (.iconst 0, 28, 0, 0, 0, 0), (.ireturn, 29, 0, 0, 0, 0)])
def mX8_init : XM := (yX8_init, cX8_init, 2, none, [(.aload_n 0, 1, 0, 0, 0, 0), (.invokespecial 1, 4, 9998, 0, 0, 105), x_0, x_0, (.aload_n 0, 5, 0, 0, 0, 0), (.bipush 6, 7, 0, 0, 0, 0), x_0, (.anewarray 7, 10, 2, 0, 0, 108), x_0, x_0, (.putfield 9, 13, 0, 0, 8, 260), x_0, x_0, (.aload_n 0, 14, 0, 0, 0, 0), (.iconst 4, 15, 0, 0, 0, 0), (.anewarray 7, 18, 2, 0, 0, 108), x_0, x_0, (.putfield 15, 21, 0, 1, 8, 261), x_0, x_0, (.aload_n 0, 22, 0, 0, 0, 0), (.new 18, 25, 0, 0, 4, 110), x_0, x_0, (.dup, 26, 0, 0, 0, 0), (.invokespecial 20, 29, 53, 0, 4, 112), x_0, x_0, (.putfield 21, 32, 0, 2, 8, 262), x_0, x_0, (.aload_n 0, 33, 0, 0, 0, 0), (.iconst 5, 34, 0, 0, 0, 0), (.anewarray 25, 37, 3, 0, 0, 136), x_0, x_0, (.putfield 27, 40, 0, 3, 8, 263), x_0, x_0, (.aload_n 0, 41, 0, 0, 0, 0), (.new 25, 44, 0, 0, 1, 136), x_0, x_0, (.dup, 45, 0, 0, 0, 0), (.invokespecial 31, 48, 11, 0, 1, 139), x_0, x_0, (.putfield 32, 51, 0, 4, 8, 264), x_0, x_0, (.aload_n 0, 52, 0, 0, 0, 0), (.new 36, 55, 0, 0, 6, 156), x_0, x_0, (.dup, 56, 0, 0, 0, 0), (.invokespecial 38, 59, 69, 0, 6, 158), x_0, x_0, (.putfield 39, 62, 0, 5, 8, 265), x_0, x_0, (.aload_n 0, 63, 0, 0, 0, 0), (.new 43, 66, 0, 0, 3, 169), x_0, x_0, (.dup, 67, 0, 0, 0, 0), (.invokespecial 45, 70, 39, 0, 3, 171), x_0, x_0, (.putfield 46, 73, 0, 6, 8, 266), x_0, x_0, (.aload_n 0, 74, 0, 0, 0, 0), (.iconst 3, 75, 0, 0, 0, 0), (.anewarray 43, 78, 4, 0, 0, 169), x_0, x_0, (.putfield 50, 81, 0, 7, 8, 267), x_0, x_0, (.aload_n 0, 82, 0, 0, 0, 0), (.new 54, 85, 0, 0, 7, 192), x_0, x_0, (.dup, 86, 0, 0, 0, 0), (.invokespecial 56, 89, 76, 0, 7, 194), x_0, x_0, (.putfield 57, 92, 0, 8, 8, 268), x_0, x_0, (.aload_n 0, 93, 0, 0, 0, 0), (.new 61, 96, 0, 0, 0, 202), x_0, x_0, (.dup, 97, 0, 0, 0, 0), (.aload_n 0, 98, 0, 0, 0, 0), (.getfield 39, 101, 0, 5, 8, 265), x_0, x_0, (.aload_n 0, 102, 0, 0, 0, 0), (.getfield 57, 105, 0, 8, 8, 268), x_0, x_0, (.invokespecial 63, 108, 0, 2, 0, 204), x_0, x_0, (.putfield 66, 111, 0, 9, 8, 269), x_0, x_0, (.aload_n 0, 112, 0, 0, 0, 0), (.new 70, 115, 0, 0, 5, 221), x_0, x_0, (.dup, 116, 0, 0, 0, 0), (.aload_n 0, 117, 0, 0, 0, 0), (.getfield 57, 120, 0, 8, 8, 268), x_0, x_0, (.invokespecial 72, 123, 63, 1, 5, 223), x_0, x_0, (.putfield 75, 126, 0, 10, 8, 270), x_0, x_0, (.aload_n 0, 127, 0, 0, 0, 0), (.bipush 6, 129, 0, 0, 0, 0), x_0, (.newarray .int, 131, 0, 0, 0, 0), x_0, (.putfield 79, 134, 0, 11, 8, 271), x_0, x_0, (.aload_n 0, 135, 0, 0, 0, 0), (.iconst 0, 136, 0, 0, 0, 0), (.putfield 83, 139, 0, 12, 8, 272), x_0, x_0, (.aload_n 0, 140, 0, 0, 0, 0), (.iconst 0, 141, 0, 0, 0, 0), (.putfield 87, 144, 0, 13, 8, 273), x_0, x_0, (.aload_n 0, 145, 0, 0, 0, 0), (.iconst 0, 146, 0, 0, 0, 0), (.putfield 90, 149, 0, 14, 8, 274), x_0, x_0, (.aload_n 0, 150, 0, 0, 0, 0), (.lconst 0, 151, 0, 0, 0, 0), (.putfield 93, 154, 0, 15, 8, 275), x_0, x_0, (.aload_n 0, 155, 0, 0, 0, 0), (.lconst 1, 156, 0, 0, 0, 0), (.putfield 97, 159, 0, 16, 8, 276), x_0, x_0, (.iconst 0, 160, 0, 0, 0, 0), (.istore_n 1, 161, 0, 0, 0, 0), (.iload_n 1, 162, 0, 0, 0, 0), (.aload_n 0, 163, 0, 0, 0, 0), (.getfield 9, 166, 0, 0, 8, 260), x_0, x_0, (.arraylength, 167, 0, 0, 0, 0), (.if_icmp .ge 24, 170, 191, 0, 0, 0), x_0, x_0, (.aload_n 0, 171, 0, 0, 0, 0), (.getfield 9, 174, 0, 0, 8, 260), x_0, x_0, (.iload_n 1, 175, 0, 0, 0, 0), (.new 7, 178, 0, 0, 2, 108), x_0, x_0, (.dup, 179, 0, 0, 0, 0), (.bipush 40, 181, 0, 0, 0, 0), x_0, (.invokespecial 100, 184, 24, 1, 2, 242), x_0, x_0, (.aastore, 185, 0, 0, 0, 0), (.iinc 1 1, 188, 0, 0, 0, 0), x_0, x_0, (.goto (-27), 191, 161, 0, 0, 0), x_0, x_0, (.iconst 0, 192, 0, 0, 0, 0), (.istore_n 1, 193, 0, 0, 0, 0), (.iload_n 1, 194, 0, 0, 0, 0), (.aload_n 0, 195, 0, 0, 0, 0), (.getfield 15, 198, 0, 1, 8, 261), x_0, x_0, (.arraylength, 199, 0, 0, 0, 0), (.if_icmp .ge 24, 202, 223, 0, 0, 0), x_0, x_0, (.aload_n 0, 203, 0, 0, 0, 0), (.getfield 15, 206, 0, 1, 8, 261), x_0, x_0, (.iload_n 1, 207, 0, 0, 0, 0), (.new 7, 210, 0, 0, 2, 108), x_0, x_0, (.dup, 211, 0, 0, 0, 0), (.bipush 60, 213, 0, 0, 0, 0), x_0, (.invokespecial 100, 216, 24, 1, 2, 242), x_0, x_0, (.aastore, 217, 0, 0, 0, 0), (.iinc 1 1, 220, 0, 0, 0, 0), x_0, x_0, (.goto (-27), 223, 193, 0, 0, 0), x_0, x_0, (.iconst 0, 224, 0, 0, 0, 0), (.istore_n 1, 225, 0, 0, 0, 0), (.iload_n 1, 226, 0, 0, 0, 0), (.aload_n 0, 227, 0, 0, 0, 0), (.getfield 27, 230, 0, 3, 8, 263), x_0, x_0, (.arraylength, 231, 0, 0, 0, 0), (.if_icmp .ge 22, 234, 253, 0, 0, 0), x_0, x_0, (.aload_n 0, 235, 0, 0, 0, 0), (.getfield 27, 238, 0, 3, 8, 263), x_0, x_0, (.iload_n 1, 239, 0, 0, 0, 0), (.new 25, 242, 0, 0, 1, 136), x_0, x_0, (.dup, 243, 0, 0, 0, 0), (.invokespecial 31, 246, 11, 0, 1, 139), x_0, x_0, (.aastore, 247, 0, 0, 0, 0), (.iinc 1 1, 250, 0, 0, 0, 0), x_0, x_0, (.goto (-25), 253, 225, 0, 0, 0), x_0, x_0, (.iconst 0, 254, 0, 0, 0, 0), (.istore_n 1, 255, 0, 0, 0, 0), (.iload_n 1, 256, 0, 0, 0, 0), (.aload_n 0, 257, 0, 0, 0, 0), (.getfield 50, 260, 0, 7, 8, 267), x_0, x_0, (.arraylength, 261, 0, 0, 0, 0), (.if_icmp .ge 31, 264, 292, 0, 0, 0), x_0, x_0, (.aload_n 0, 265, 0, 0, 0, 0), (.getfield 50, 268, 0, 7, 8, 267), x_0, x_0, (.iload_n 1, 269, 0, 0, 0, 0), (.new 43, 272, 0, 0, 3, 169), x_0, x_0, (.dup, 273, 0, 0, 0, 0), (.invokespecial 45, 276, 39, 0, 3, 171), x_0, x_0, (.aastore, 277, 0, 0, 0, 0), (.aload_n 0, 278, 0, 0, 0, 0), (.getfield 50, 281, 0, 7, 8, 267), x_0, x_0, (.iload_n 1, 282, 0, 0, 0, 0), (.aaload, 283, 0, 0, 0, 0), (.invokevirtual 103, 286, 41, 0, 3, 256), x_0, x_0, (.iinc 1 1, 289, 0, 0, 0, 0), x_0, x_0, (.goto (-34), 292, 255, 0, 0, 0), x_0, x_0, (.return_, 293, 0, 0, 0, 0)])
def mX8_row : XM := (yX8_row, cX8_row, 3, (some (.int)), [(.aload_n 0, 1, 0, 0, 0, 0), (.aload_n 0, 2, 0, 0, 0, 0), (.getfield 9, 5, 0, 0, 8, 260), x_0, x_0, (.iload_n 1, 6, 0, 0, 0, 0), (.invokestatic 106, 9, 126, 2, 8, 316), x_0, x_0, (.iload_n 2, 10, 0, 0, 0, 0), (.iconst 0, 11, 0, 0, 0, 0), (.invokevirtual 110, 14, 129, 3, 8, 319), x_0, x_0, (.ireturn, 15, 0, 0, 0, 0)])
def mX8_lay : XM := (yX8_lay, cX8_lay, 6, (some (.int)), [(.aload_n 0, 1, 0, 0, 0, 0), (.getfield 9, 4, 0, 0, 8, 260), x_0, x_0, (.iload_n 1, 5, 0, 0, 0, 0), (.invokestatic 106, 8, 126, 2, 8, 316), x_0, x_0, (.astore 4, 10, 0, 0, 0, 0), x_0, (.aload_n 0, 11, 0, 0, 0, 0), (.aload 4, 13, 0, 0, 0, 0), x_0, (.iload_n 2, 14, 0, 0, 0, 0), (.invokevirtual 114, 17, 131, 2, 8, 345), x_0, x_0, (.istore 5, 19, 0, 0, 0, 0), x_0, (.aload 4, 21, 0, 0, 0, 0), x_0, (.ifnull 8, 24, 29, 0, 0, 0), x_0, x_0, (.iload 5, 26, 0, 0, 0, 0), x_0, (.ifCond .eq 6, 29, 32, 0, 0, 0), x_0, x_0, (.iload 5, 31, 0, 0, 0, 0), x_0, (.ireturn, 32, 0, 0, 0, 0), (.aload_n 0, 33, 0, 0, 0, 0), (.aload 4, 35, 0, 0, 0, 0), x_0, (.iload_n 2, 36, 0, 0, 0, 0), (.invokevirtual 118, 39, 32, 1, 2, 361), x_0, x_0, (.putfield 90, 42, 0, 14, 8, 274), x_0, x_0, (.aload 4, 44, 0, 0, 0, 0), x_0, (.iload_n 2, 45, 0, 0, 0, 0), (.iload_n 3, 46, 0, 0, 0, 0), (.invokevirtual 122, 49, 33, 2, 2, 366), x_0, x_0, (.iconst 1, 50, 0, 0, 0, 0), (.ireturn, 51, 0, 0, 0, 0)])
def mX8_at : XM := (yX8_at, cX8_at, 5, (some (.int)), [(.aload_n 0, 1, 0, 0, 0, 0), (.getfield 9, 4, 0, 0, 8, 260), x_0, x_0, (.iload_n 1, 5, 0, 0, 0, 0), (.invokestatic 106, 8, 126, 2, 8, 316), x_0, x_0, (.astore_n 3, 9, 0, 0, 0, 0), (.aload_n 0, 10, 0, 0, 0, 0), (.aload_n 3, 11, 0, 0, 0, 0), (.iload_n 2, 12, 0, 0, 0, 0), (.invokevirtual 114, 15, 131, 2, 8, 345), x_0, x_0, (.istore 4, 17, 0, 0, 0, 0), x_0, (.aload_n 3, 18, 0, 0, 0, 0), (.ifnull 8, 21, 26, 0, 0, 0), x_0, x_0, (.iload 4, 23, 0, 0, 0, 0), x_0, (.ifCond .eq 6, 26, 29, 0, 0, 0), x_0, x_0, (.iload 4, 28, 0, 0, 0, 0), x_0, (.ireturn, 29, 0, 0, 0, 0), (.aload_n 0, 30, 0, 0, 0, 0), (.aload_n 3, 31, 0, 0, 0, 0), (.iload_n 2, 32, 0, 0, 0, 0), (.invokevirtual 118, 35, 32, 1, 2, 361), x_0, x_0, (.putfield 90, 38, 0, 14, 8, 274), x_0, x_0, (.iconst 1, 39, 0, 0, 0, 0), (.ireturn, 40, 0, 0, 0, 0)])
def mX8_tear : XM := (yX8_tear, cX8_tear, 4, (some (.int)), [(.aload_n 0, 1, 0, 0, 0, 0), (.getfield 9, 4, 0, 0, 8, 260), x_0, x_0, (.iload_n 1, 5, 0, 0, 0, 0), (.invokestatic 106, 8, 126, 2, 8, 316), x_0, x_0, (.astore_n 2, 9, 0, 0, 0, 0), (.aload_n 0, 10, 0, 0, 0, 0), (.aload_n 2, 11, 0, 0, 0, 0), (.invokevirtual 126, 14, 130, 1, 8, 349), x_0, x_0, (.istore_n 3, 15, 0, 0, 0, 0), (.aload_n 2, 16, 0, 0, 0, 0), (.ifnull 7, 19, 23, 0, 0, 0), x_0, x_0, (.iload_n 3, 20, 0, 0, 0, 0), (.ifCond .eq 5, 23, 25, 0, 0, 0), x_0, x_0, (.iload_n 3, 24, 0, 0, 0, 0), (.ireturn, 25, 0, 0, 0, 0), (.aload_n 2, 26, 0, 0, 0, 0), (.invokevirtual 130, 29, 28, 0, 2, 378), x_0, x_0, (.iconst 1, 30, 0, 0, 0, 0), (.ireturn, 31, 0, 0, 0, 0)])
def mX8_copy : XM := (yX8_copy, cX8_copy, 8, (some (.int)), [(.aload_n 0, 1, 0, 0, 0, 0), (.getfield 9, 4, 0, 0, 8, 260), x_0, x_0, (.iload_n 1, 5, 0, 0, 0, 0), (.invokestatic 106, 8, 126, 2, 8, 316), x_0, x_0, (.astore 6, 10, 0, 0, 0, 0), x_0, (.aload_n 0, 11, 0, 0, 0, 0), (.getfield 9, 14, 0, 0, 8, 260), x_0, x_0, (.iload_n 3, 15, 0, 0, 0, 0), (.invokestatic 106, 18, 126, 2, 8, 316), x_0, x_0, (.astore 7, 20, 0, 0, 0, 0), x_0, (.aload 6, 22, 0, 0, 0, 0), x_0, (.ifnull 8, 25, 30, 0, 0, 0), x_0, x_0, (.aload 7, 27, 0, 0, 0, 0), x_0, (.ifnonnull 5, 30, 32, 0, 0, 0), x_0, x_0, (.iconst (-1), 31, 0, 0, 0, 0), (.ireturn, 32, 0, 0, 0, 0), (.iload 5, 34, 0, 0, 0, 0), x_0, (.ifCond .ge 9, 37, 43, 0, 0, 0), x_0, x_0, (.aload_n 0, 38, 0, 0, 0, 0), (.iconst 5, 39, 0, 0, 0, 0), (.invokevirtual 133, 42, 128, 1, 8, 327), x_0, x_0, (.ireturn, 43, 0, 0, 0, 0), (.aload 6, 45, 0, 0, 0, 0), x_0, (.invokevirtual 136, 48, 27, 0, 2, 353), x_0, x_0, (.ifCond .ne 11, 51, 59, 0, 0, 0), x_0, x_0, (.aload 7, 53, 0, 0, 0, 0), x_0, (.invokevirtual 136, 56, 27, 0, 2, 353), x_0, x_0, (.ifCond .eq 9, 59, 65, 0, 0, 0), x_0, x_0, (.aload_n 0, 60, 0, 0, 0, 0), (.iconst 1, 61, 0, 0, 0, 0), (.invokevirtual 133, 64, 128, 1, 8, 327), x_0, x_0, (.ireturn, 65, 0, 0, 0, 0), (.aload 6, 67, 0, 0, 0, 0), x_0, (.iload_n 2, 68, 0, 0, 0, 0), (.iload 5, 70, 0, 0, 0, 0), x_0, (.invokevirtual 140, 73, 31, 2, 2, 386), x_0, x_0, (.ifCond .eq 15, 76, 88, 0, 0, 0), x_0, x_0, (.aload 7, 78, 0, 0, 0, 0), x_0, (.iload 4, 80, 0, 0, 0, 0), x_0, (.iload 5, 82, 0, 0, 0, 0), x_0, (.invokevirtual 140, 85, 31, 2, 2, 386), x_0, x_0, (.ifCond .ne 9, 88, 94, 0, 0, 0), x_0, x_0, (.aload_n 0, 89, 0, 0, 0, 0), (.iconst 2, 90, 0, 0, 0, 0), (.invokevirtual 133, 93, 128, 1, 8, 327), x_0, x_0, (.ireturn, 94, 0, 0, 0, 0), (.aload 7, 96, 0, 0, 0, 0), x_0, (.iload 4, 98, 0, 0, 0, 0), x_0, (.aload 6, 100, 0, 0, 0, 0), x_0, (.iload_n 2, 101, 0, 0, 0, 0), (.iload 5, 103, 0, 0, 0, 0), x_0, (.invokevirtual 144, 106, 34, 4, 2, 390), x_0, x_0, (.iconst 1, 107, 0, 0, 0, 0), (.ireturn, 108, 0, 0, 0, 0)])
def mX8_mean : XM := (yX8_mean, cX8_mean, 5, (some (.int)), [(.aload_n 0, 1, 0, 0, 0, 0), (.getfield 9, 4, 0, 0, 8, 260), x_0, x_0, (.iload_n 1, 5, 0, 0, 0, 0), (.invokestatic 106, 8, 126, 2, 8, 316), x_0, x_0, (.astore_n 2, 9, 0, 0, 0, 0), (.aload_n 0, 10, 0, 0, 0, 0), (.aload_n 2, 11, 0, 0, 0, 0), (.invokevirtual 126, 14, 130, 1, 8, 349), x_0, x_0, (.istore_n 3, 15, 0, 0, 0, 0), (.aload_n 2, 16, 0, 0, 0, 0), (.ifnull 7, 19, 23, 0, 0, 0), x_0, x_0, (.iload_n 3, 20, 0, 0, 0, 0), (.ifCond .eq 5, 23, 25, 0, 0, 0), x_0, x_0, (.iload_n 3, 24, 0, 0, 0, 0), (.ireturn, 25, 0, 0, 0, 0), (.aload_n 2, 26, 0, 0, 0, 0), (.invokevirtual 148, 29, 26, 0, 2, 402), x_0, x_0, (.istore 4, 31, 0, 0, 0, 0), x_0, (.iload 4, 33, 0, 0, 0, 0), x_0, (.ifCond .gt 9, 36, 42, 0, 0, 0), x_0, x_0, (.aload_n 0, 37, 0, 0, 0, 0), (.iconst 4, 38, 0, 0, 0, 0), (.invokevirtual 133, 41, 128, 1, 8, 327), x_0, x_0, (.ireturn, 42, 0, 0, 0, 0), (.aload_n 0, 43, 0, 0, 0, 0), (.aload_n 2, 44, 0, 0, 0, 0), (.invokevirtual 152, 47, 35, 0, 2, 406), x_0, x_0, (.iload 4, 49, 0, 0, 0, 0), x_0, (.i2l, 50, 0, 0, 0, 0), (.ldiv, 51, 0, 0, 0, 0), (.l2i, 52, 0, 0, 0, 0), (.putfield 90, 55, 0, 14, 8, 274), x_0, x_0, (.iconst 1, 56, 0, 0, 0, 0), (.ireturn, 57, 0, 0, 0, 0)])
def mX8_text : XM := (yX8_text, cX8_text, 3, (some (.int)), [(.aload_n 0, 1, 0, 0, 0, 0), (.aload_n 0, 2, 0, 0, 0, 0), (.getfield 15, 5, 0, 1, 8, 261), x_0, x_0, (.iload_n 1, 6, 0, 0, 0, 0), (.invokestatic 106, 9, 126, 2, 8, 316), x_0, x_0, (.iload_n 2, 10, 0, 0, 0, 0), (.bipush 32, 12, 0, 0, 0, 0), x_0, (.invokevirtual 110, 15, 129, 3, 8, 319), x_0, x_0, (.ireturn, 16, 0, 0, 0, 0)])
def mX8_put : XM := (yX8_put, cX8_put, 7, (some (.int)), [(.aload_n 0, 1, 0, 0, 0, 0), (.getfield 15, 4, 0, 1, 8, 261), x_0, x_0, (.iload_n 1, 5, 0, 0, 0, 0), (.invokestatic 106, 8, 126, 2, 8, 316), x_0, x_0, (.astore 4, 10, 0, 0, 0, 0), x_0, (.aload_n 0, 11, 0, 0, 0, 0), (.aload 4, 13, 0, 0, 0, 0), x_0, (.iload_n 2, 14, 0, 0, 0, 0), (.invokevirtual 114, 17, 131, 2, 8, 345), x_0, x_0, (.istore 5, 19, 0, 0, 0, 0), x_0, (.aload 4, 21, 0, 0, 0, 0), x_0, (.ifnull 8, 24, 29, 0, 0, 0), x_0, x_0, (.iload 5, 26, 0, 0, 0, 0), x_0, (.ifCond .eq 6, 29, 32, 0, 0, 0), x_0, x_0, (.iload 5, 31, 0, 0, 0, 0), x_0, (.ireturn, 32, 0, 0, 0, 0), (.aload 4, 34, 0, 0, 0, 0), x_0, (.iload_n 2, 35, 0, 0, 0, 0), (.invokevirtual 118, 38, 32, 1, 2, 361), x_0, x_0, (.istore 6, 40, 0, 0, 0, 0), x_0, (.aload 4, 42, 0, 0, 0, 0), x_0, (.iload_n 2, 43, 0, 0, 0, 0), (.iload_n 3, 44, 0, 0, 0, 0), (.i2b, 45, 0, 0, 0, 0), (.invokevirtual 122, 48, 33, 2, 2, 366), x_0, x_0, (.iload 6, 50, 0, 0, 0, 0), x_0, (.sipush 1000, 53, 0, 0, 0, 0), x_0, x_0, (.iadd, 54, 0, 0, 0, 0), (.ireturn, 55, 0, 0, 0, 0)])
def mX8_fault : XM := (yX8_fault, cX8_fault, 4, (some (.int)), [(.aload_n 0, 1, 0, 0, 0, 0), (.getfield 15, 4, 0, 1, 8, 261), x_0, x_0, (.iload_n 1, 5, 0, 0, 0, 0), (.invokestatic 106, 8, 126, 2, 8, 316), x_0, x_0, (.astore_n 2, 9, 0, 0, 0, 0), (.aload_n 0, 10, 0, 0, 0, 0), (.aload_n 2, 11, 0, 0, 0, 0), (.invokevirtual 126, 14, 130, 1, 8, 349), x_0, x_0, (.istore_n 3, 15, 0, 0, 0, 0), (.aload_n 2, 16, 0, 0, 0, 0), (.ifnull 7, 19, 23, 0, 0, 0), x_0, x_0, (.iload_n 3, 20, 0, 0, 0, 0), (.ifCond .eq 5, 23, 25, 0, 0, 0), x_0, x_0, (.iload_n 3, 24, 0, 0, 0, 0), (.ireturn, 25, 0, 0, 0, 0), (.aload_n 0, 26, 0, 0, 0, 0), (.getfield 21, 29, 0, 2, 8, 262), x_0, x_0, (.aload_n 2, 30, 0, 0, 0, 0), (.invokevirtual 156, 33, 54, 1, 4, 422), x_0, x_0, (.ireturn, 34, 0, 0, 0, 0)])
def mX8_dome : XM := (yX8_dome, cX8_dome, 5, (some (.int)), [(.aload_n 0, 1, 0, 0, 0, 0), (.getfield 15, 4, 0, 1, 8, 261), x_0, x_0, (.iload_n 1, 5, 0, 0, 0, 0), (.invokestatic 106, 8, 126, 2, 8, 316), x_0, x_0, (.astore_n 2, 9, 0, 0, 0, 0), (.aload_n 0, 10, 0, 0, 0, 0), (.aload_n 2, 11, 0, 0, 0, 0), (.invokevirtual 126, 14, 130, 1, 8, 349), x_0, x_0, (.istore_n 3, 15, 0, 0, 0, 0), (.aload_n 2, 16, 0, 0, 0, 0), (.ifnull 7, 19, 23, 0, 0, 0), x_0, x_0, (.iload_n 3, 20, 0, 0, 0, 0), (.ifCond .eq 5, 23, 25, 0, 0, 0), x_0, x_0, (.iload_n 3, 24, 0, 0, 0, 0), (.ireturn, 25, 0, 0, 0, 0), (.aload_n 0, 26, 0, 0, 0, 0), (.getfield 21, 29, 0, 2, 8, 262), x_0, x_0, (.aload_n 2, 30, 0, 0, 0, 0), (.invokevirtual 156, 33, 54, 1, 4, 422), x_0, x_0, (.bipush (-9), 35, 0, 0, 0, 0), x_0, (.if_icmp .eq 6, 38, 41, 0, 0, 0), x_0, x_0, (.bipush (-4), 40, 0, 0, 0, 0), x_0, (.ireturn, 41, 0, 0, 0, 0), (.aload_n 0, 42, 0, 0, 0, 0), (.aload_n 0, 43, 0, 0, 0, 0), (.getfield 21, 46, 0, 2, 8, 262), x_0, x_0, (.aload_n 0, 47, 0, 0, 0, 0), (.getfield 39, 50, 0, 5, 8, 265), x_0, x_0, (.aload_n 0, 51, 0, 0, 0, 0), (.getfield 27, 54, 0, 3, 8, 263), x_0, x_0, (.invokevirtual 159, 57, 55, 2, 4, 462), x_0, x_0, (.putfield 83, 60, 0, 12, 8, 272), x_0, x_0, (.aload_n 0, 61, 0, 0, 0, 0), (.getfield 46, 64, 0, 6, 8, 266), x_0, x_0, (.invokevirtual 163, 67, 40, 0, 3, 474), x_0, x_0, (.iconst 0, 68, 0, 0, 0, 0), (.istore 4, 70, 0, 0, 0, 0), x_0, (.iload 4, 72, 0, 0, 0, 0), x_0, (.aload_n 0, 73, 0, 0, 0, 0), (.getfield 50, 76, 0, 7, 8, 267), x_0, x_0, (.arraylength, 77, 0, 0, 0, 0), (.if_icmp .ge 19, 80, 96, 0, 0, 0), x_0, x_0, (.aload_n 0, 81, 0, 0, 0, 0), (.getfield 50, 84, 0, 7, 8, 267), x_0, x_0, (.iload 4, 86, 0, 0, 0, 0), x_0, (.aaload, 87, 0, 0, 0, 0), (.invokevirtual 103, 90, 41, 0, 3, 256), x_0, x_0, (.iinc 4 1, 93, 0, 0, 0, 0), x_0, x_0, (.goto (-23), 96, 70, 0, 0, 0), x_0, x_0, (.aload_n 0, 97, 0, 0, 0, 0), (.getfield 83, 100, 0, 12, 8, 272), x_0, x_0, (.ireturn, 101, 0, 0, 0, 0)])
def mX8_light : XM := (yX8_light, cX8_light, 4, (some (.int)), [(.aload_n 0, 1, 0, 0, 0, 0), (.iload_n 1, 2, 0, 0, 0, 0), (.invokevirtual 166, 5, 127, 1, 8, 482), x_0, x_0, (.astore_n 3, 6, 0, 0, 0, 0), (.aload_n 3, 7, 0, 0, 0, 0), (.ifnull 13, 10, 20, 0, 0, 0), x_0, x_0, (.iload_n 2, 11, 0, 0, 0, 0), (.ifCond .lt 9, 14, 20, 0, 0, 0), x_0, x_0, (.iload_n 2, 15, 0, 0, 0, 0), (.bipush 6, 17, 0, 0, 0, 0), x_0, (.if_icmp .lt 5, 20, 22, 0, 0, 0), x_0, x_0, (.iconst (-1), 21, 0, 0, 0, 0), (.ireturn, 22, 0, 0, 0, 0), (.aload_n 0, 23, 0, 0, 0, 0), (.aload_n 0, 24, 0, 0, 0, 0), (.aload_n 3, 25, 0, 0, 0, 0), (.iload_n 2, 26, 0, 0, 0, 0), (.invokevirtual 170, 29, 143, 2, 8, 486), x_0, x_0, (.putfield 90, 32, 0, 14, 8, 274), x_0, x_0, (.iconst 1, 33, 0, 0, 0, 0), (.ireturn, 34, 0, 0, 0, 0)])
def mX8_mark : XM := (yX8_mark, cX8_mark, 4, (some (.int)), [(.aload_n 0, 1, 0, 0, 0, 0), (.iload_n 1, 2, 0, 0, 0, 0), (.invokevirtual 166, 5, 127, 1, 8, 482), x_0, x_0, (.astore_n 3, 6, 0, 0, 0, 0), (.aload_n 3, 7, 0, 0, 0, 0), (.ifnull 13, 10, 20, 0, 0, 0), x_0, x_0, (.iload_n 2, 11, 0, 0, 0, 0), (.ifCond .le 9, 14, 20, 0, 0, 0), x_0, x_0, (.iload_n 2, 15, 0, 0, 0, 0), (.bipush 6, 17, 0, 0, 0, 0), x_0, (.if_icmp .lt 5, 20, 22, 0, 0, 0), x_0, x_0, (.iconst (-1), 21, 0, 0, 0, 0), (.ireturn, 22, 0, 0, 0, 0), (.aload_n 3, 23, 0, 0, 0, 0), (.iload_n 2, 24, 0, 0, 0, 0), (.invokevirtual 174, 27, 17, 1, 1, 551), x_0, x_0, (.ifCond .ne 9, 30, 36, 0, 0, 0), x_0, x_0, (.aload_n 0, 31, 0, 0, 0, 0), (.iconst 3, 32, 0, 0, 0, 0), (.invokevirtual 133, 35, 128, 1, 8, 327), x_0, x_0, (.ireturn, 36, 0, 0, 0, 0), (.iload_n 2, 37, 0, 0, 0, 0), (.tableswitch 96 1 4 #[31, 45, 57, 70], 68, 0, 0, 0, 0), x_0, x_0, x_0, x_0, x_0, x_0, x_0, x_0, x_0, x_0, x_0, x_0, x_0, x_0, x_0, x_0, x_0, x_0, x_0, x_0, x_0, x_0, x_0, x_0, x_0, x_0, x_0, x_0, x_0, x_0, (.aload_n 3, 69, 0, 0, 0, 0), (.aload_n 0, 70, 0, 0, 0, 0), (.getfield 46, 73, 0, 6, 8, 266), x_0, x_0, (.invokevirtual 178, 76, 44, 0, 3, 494), x_0, x_0, (.bipush 8, 78, 0, 0, 0, 0), x_0, (.invokevirtual 181, 81, 22, 2, 1, 552), x_0, x_0, (.ireturn, 82, 0, 0, 0, 0), (.aload_n 3, 83, 0, 0, 0, 0), (.aload_n 0, 84, 0, 0, 0, 0), (.getfield 46, 87, 0, 6, 8, 266), x_0, x_0, (.invokevirtual 178, 90, 44, 0, 3, 494), x_0, x_0, (.invokevirtual 185, 93, 23, 1, 1, 557), x_0, x_0, (.ireturn, 94, 0, 0, 0, 0), (.aload_n 3, 95, 0, 0, 0, 0), (.aload_n 0, 96, 0, 0, 0, 0), (.getfield 46, 99, 0, 6, 8, 266), x_0, x_0, (.invokevirtual 178, 102, 44, 0, 3, 494), x_0, x_0, (.iconst 4, 103, 0, 0, 0, 0), (.invokevirtual 188, 106, 21, 2, 1, 561), x_0, x_0, (.ireturn, 107, 0, 0, 0, 0), (.aload_n 0, 108, 0, 0, 0, 0), (.getfield 39, 111, 0, 5, 8, 265), x_0, x_0, (.aload_n 0, 112, 0, 0, 0, 0), (.getfield 46, 115, 0, 6, 8, 266), x_0, x_0, (.invokevirtual 191, 118, 45, 0, 3, 532), x_0, x_0, (.aload_n 3, 119, 0, 0, 0, 0), (.aload_n 0, 120, 0, 0, 0, 0), (.getfield 46, 123, 0, 6, 8, 266), x_0, x_0, (.invokevirtual 178, 126, 44, 0, 3, 494), x_0, x_0, (.invokevirtual 194, 129, 19, 1, 1, 498), x_0, x_0, (.invokevirtual 197, 132, 75, 2, 6, 566), x_0, x_0, (.ireturn, 133, 0, 0, 0, 0), (.aload_n 0, 134, 0, 0, 0, 0), (.getfield 46, 137, 0, 6, 8, 266), x_0, x_0, (.invokevirtual 178, 140, 44, 0, 3, 494), x_0, x_0, (.ineg, 141, 0, 0, 0, 0), (.iconst 4, 142, 0, 0, 0, 0), (.invokestatic 200, 145, 251, 2, 0, 509), x_0, x_0, (.ireturn, 146, 0, 0, 0, 0)])
def mX8_moment : XM := (yX8_moment, cX8_moment, 1, (some (.int)), [(.aload_n 0, 1, 0, 0, 0, 0), (.getfield 83, 4, 0, 12, 8, 272), x_0, x_0, (.ifCond .ne 6, 7, 10, 0, 0, 0), x_0, x_0, (.bipush (-4), 9, 0, 0, 0, 0), x_0, (.ireturn, 10, 0, 0, 0, 0), (.aload_n 0, 11, 0, 0, 0, 0), (.getfield 46, 14, 0, 6, 8, 266), x_0, x_0, (.iconst 1, 15, 0, 0, 0, 0), (.invokevirtual 205, 18, 47, 1, 3, 574), x_0, x_0, (.ifCond .ne 6, 21, 24, 0, 0, 0), x_0, x_0, (.bipush (-2), 23, 0, 0, 0, 0), x_0, (.ireturn, 24, 0, 0, 0, 0), (.aload_n 0, 25, 0, 0, 0, 0), (.invokevirtual 208, 28, 139, 0, 8, 578), x_0, x_0, (.ireturn, 29, 0, 0, 0, 0)])
def mX8_turn : XM := (yX8_turn, cX8_turn, 2, (some (.int)), [(.iload_n 1, 1, 0, 0, 0, 0), (.ifCond .eq 15, 4, 16, 0, 0, 0), x_0, x_0, (.iload_n 1, 5, 0, 0, 0, 0), (.bipush (-6), 7, 0, 0, 0, 0), x_0, (.if_icmp .lt 9, 10, 16, 0, 0, 0), x_0, x_0, (.iload_n 1, 11, 0, 0, 0, 0), (.bipush 6, 13, 0, 0, 0, 0), x_0, (.if_icmp .le 5, 16, 18, 0, 0, 0), x_0, x_0, (.iconst (-1), 17, 0, 0, 0, 0), (.ireturn, 18, 0, 0, 0, 0), (.aload_n 0, 19, 0, 0, 0, 0), (.getfield 83, 22, 0, 12, 8, 272), x_0, x_0, (.ifCond .ne 6, 25, 28, 0, 0, 0), x_0, x_0, (.bipush (-4), 27, 0, 0, 0, 0), x_0, (.ireturn, 28, 0, 0, 0, 0), (.aload_n 0, 29, 0, 0, 0, 0), (.getfield 46, 32, 0, 6, 8, 266), x_0, x_0, (.iconst 1, 33, 0, 0, 0, 0), (.invokevirtual 205, 36, 47, 1, 3, 574), x_0, x_0, (.ifCond .ne 6, 39, 42, 0, 0, 0), x_0, x_0, (.bipush (-2), 41, 0, 0, 0, 0), x_0, (.ireturn, 42, 0, 0, 0, 0), (.aload_n 0, 43, 0, 0, 0, 0), (.getfield 46, 46, 0, 6, 8, 266), x_0, x_0, (.iload_n 1, 47, 0, 0, 0, 0), (.aload_n 0, 48, 0, 0, 0, 0), (.getfield 39, 51, 0, 5, 8, 265), x_0, x_0, (.invokevirtual 211, 54, 49, 2, 3, 595), x_0, x_0, (.ireturn, 55, 0, 0, 0, 0)])
def mX8_undo : XM := (yX8_undo, cX8_undo, 3, (some (.int)), [(.aload_n 0, 1, 0, 0, 0, 0), (.getfield 46, 4, 0, 6, 8, 266), x_0, x_0, (.invokevirtual 215, 7, 43, 0, 3, 611), x_0, x_0, (.istore_n 2, 8, 0, 0, 0, 0), (.iload_n 1, 9, 0, 0, 0, 0), (.ifCond .lt 8, 12, 17, 0, 0, 0), x_0, x_0, (.iload_n 1, 13, 0, 0, 0, 0), (.iload_n 2, 14, 0, 0, 0, 0), (.if_icmp .le 5, 17, 19, 0, 0, 0), x_0, x_0, (.iconst (-1), 18, 0, 0, 0, 0), (.ireturn, 19, 0, 0, 0, 0), (.aload_n 0, 20, 0, 0, 0, 0), (.getfield 46, 23, 0, 6, 8, 266), x_0, x_0, (.iload_n 1, 24, 0, 0, 0, 0), (.aload_n 0, 25, 0, 0, 0, 0), (.getfield 39, 28, 0, 5, 8, 265), x_0, x_0, (.invokevirtual 218, 31, 50, 2, 3, 615), x_0, x_0, (.iload_n 2, 32, 0, 0, 0, 0), (.iload_n 1, 33, 0, 0, 0, 0), (.isub, 34, 0, 0, 0, 0), (.ireturn, 35, 0, 0, 0, 0)])
def mX8_keep : XM := (yX8_keep, cX8_keep, 2, (some (.int)), [(.iload_n 1, 1, 0, 0, 0, 0), (.ifCond .lt 12, 4, 13, 0, 0, 0), x_0, x_0, (.iload_n 1, 5, 0, 0, 0, 0), (.aload_n 0, 6, 0, 0, 0, 0), (.getfield 50, 9, 0, 7, 8, 267), x_0, x_0, (.arraylength, 10, 0, 0, 0, 0), (.if_icmp .lt 5, 13, 15, 0, 0, 0), x_0, x_0, (.iconst (-1), 14, 0, 0, 0, 0), (.ireturn, 15, 0, 0, 0, 0), (.aload_n 0, 16, 0, 0, 0, 0), (.getfield 83, 19, 0, 12, 8, 272), x_0, x_0, (.ifCond .ne 6, 22, 25, 0, 0, 0), x_0, x_0, (.bipush (-4), 24, 0, 0, 0, 0), x_0, (.ireturn, 25, 0, 0, 0, 0), (.aload_n 0, 26, 0, 0, 0, 0), (.getfield 50, 29, 0, 7, 8, 267), x_0, x_0, (.iload_n 1, 30, 0, 0, 0, 0), (.aaload, 31, 0, 0, 0, 0), (.aload_n 0, 32, 0, 0, 0, 0), (.getfield 46, 35, 0, 6, 8, 266), x_0, x_0, (.invokevirtual 222, 38, 51, 1, 3, 626), x_0, x_0, (.aload_n 0, 39, 0, 0, 0, 0), (.getfield 46, 42, 0, 6, 8, 266), x_0, x_0, (.invokevirtual 215, 45, 43, 0, 3, 611), x_0, x_0, (.ireturn, 46, 0, 0, 0, 0)])
def mX8_on : XM := (yX8_on, cX8_on, 2, (some (.int)), [(.iload_n 1, 1, 0, 0, 0, 0), (.ifCond .lt 12, 4, 13, 0, 0, 0), x_0, x_0, (.iload_n 1, 5, 0, 0, 0, 0), (.aload_n 0, 6, 0, 0, 0, 0), (.getfield 50, 9, 0, 7, 8, 267), x_0, x_0, (.arraylength, 10, 0, 0, 0, 0), (.if_icmp .lt 5, 13, 15, 0, 0, 0), x_0, x_0, (.iconst (-1), 14, 0, 0, 0, 0), (.ireturn, 15, 0, 0, 0, 0), (.aload_n 0, 16, 0, 0, 0, 0), (.getfield 50, 19, 0, 7, 8, 267), x_0, x_0, (.iload_n 1, 20, 0, 0, 0, 0), (.aaload, 21, 0, 0, 0, 0), (.invokevirtual 226, 24, 42, 0, 3, 635), x_0, x_0, (.ifCond .eq 9, 27, 33, 0, 0, 0), x_0, x_0, (.aload_n 0, 28, 0, 0, 0, 0), (.iconst 1, 29, 0, 0, 0, 0), (.invokevirtual 133, 32, 128, 1, 8, 327), x_0, x_0, (.ireturn, 33, 0, 0, 0, 0), (.aload_n 0, 34, 0, 0, 0, 0), (.getfield 46, 37, 0, 6, 8, 266), x_0, x_0, (.aload_n 0, 38, 0, 0, 0, 0), (.getfield 50, 41, 0, 7, 8, 267), x_0, x_0, (.iload_n 1, 42, 0, 0, 0, 0), (.aaload, 43, 0, 0, 0, 0), (.invokevirtual 222, 46, 51, 1, 3, 626), x_0, x_0, (.aload_n 0, 47, 0, 0, 0, 0), (.getfield 46, 50, 0, 6, 8, 266), x_0, x_0, (.invokevirtual 215, 53, 43, 0, 3, 611), x_0, x_0, (.ireturn, 54, 0, 0, 0, 0)])
def mX8_place : XM := (yX8_place, cX8_place, 4, (some (.int)), [(.aload_n 0, 1, 0, 0, 0, 0), (.iload_n 1, 2, 0, 0, 0, 0), (.invokevirtual 166, 5, 127, 1, 8, 482), x_0, x_0, (.astore_n 3, 6, 0, 0, 0, 0), (.aload_n 3, 7, 0, 0, 0, 0), (.ifnull 10, 10, 17, 0, 0, 0), x_0, x_0, (.iload_n 2, 11, 0, 0, 0, 0), (.invokestatic 229, 14, 124, 1, 8, 643), x_0, x_0, (.ifCond .eq 5, 17, 19, 0, 0, 0), x_0, x_0, (.iconst (-1), 18, 0, 0, 0, 0), (.ireturn, 19, 0, 0, 0, 0), (.aload_n 0, 20, 0, 0, 0, 0), (.aload_n 3, 21, 0, 0, 0, 0), (.aload_n 0, 22, 0, 0, 0, 0), (.getfield 46, 25, 0, 6, 8, 266), x_0, x_0, (.invokevirtual 178, 28, 44, 0, 3, 494), x_0, x_0, (.iload_n 2, 29, 0, 0, 0, 0), (.iadd, 30, 0, 0, 0, 0), (.invokevirtual 232, 33, 20, 1, 1, 520), x_0, x_0, (.putfield 90, 36, 0, 14, 8, 274), x_0, x_0, (.aload_n 3, 37, 0, 0, 0, 0), (.aload_n 0, 38, 0, 0, 0, 0), (.getfield 46, 41, 0, 6, 8, 266), x_0, x_0, (.invokevirtual 178, 44, 44, 0, 3, 494), x_0, x_0, (.iload_n 2, 45, 0, 0, 0, 0), (.iadd, 46, 0, 0, 0, 0), (.invokevirtual 194, 49, 19, 1, 1, 498), x_0, x_0, (.ireturn, 50, 0, 0, 0, 0)])
def mX8_gets : XM := (yX8_gets, cX8_gets, 4, (some (.int)), [(.aload_n 0, 1, 0, 0, 0, 0), (.iload_n 1, 2, 0, 0, 0, 0), (.invokevirtual 166, 5, 127, 1, 8, 482), x_0, x_0, (.astore_n 3, 6, 0, 0, 0, 0), (.aload_n 3, 7, 0, 0, 0, 0), (.ifnull 10, 10, 17, 0, 0, 0), x_0, x_0, (.iload_n 2, 11, 0, 0, 0, 0), (.invokestatic 229, 14, 124, 1, 8, 643), x_0, x_0, (.ifCond .eq 5, 17, 19, 0, 0, 0), x_0, x_0, (.iconst (-1), 18, 0, 0, 0, 0), (.ireturn, 19, 0, 0, 0, 0), (.aload_n 0, 20, 0, 0, 0, 0), (.aload_n 3, 21, 0, 0, 0, 0), (.iload_n 2, 22, 0, 0, 0, 0), (.invokevirtual 235, 25, 134, 2, 8, 528), x_0, x_0, (.ireturn, 26, 0, 0, 0, 0)])
def mX8_seen : XM := (yX8_seen, cX8_seen, 4, (some (.int)), [(.iload_n 1, 1, 0, 0, 0, 0), (.invokestatic 229, 4, 124, 1, 8, 643), x_0, x_0, (.ifCond .eq 5, 7, 9, 0, 0, 0), x_0, x_0, (.iconst (-1), 8, 0, 0, 0, 0), (.ireturn, 9, 0, 0, 0, 0), (.iconst 0, 10, 0, 0, 0, 0), (.istore_n 2, 11, 0, 0, 0, 0), (.iconst 0, 12, 0, 0, 0, 0), (.istore_n 3, 13, 0, 0, 0, 0), (.iload_n 3, 14, 0, 0, 0, 0), (.aload_n 0, 15, 0, 0, 0, 0), (.getfield 83, 18, 0, 12, 8, 272), x_0, x_0, (.if_icmp .ge 38, 21, 56, 0, 0, 0), x_0, x_0, (.iload_n 3, 22, 0, 0, 0, 0), (.aload_n 0, 23, 0, 0, 0, 0), (.getfield 27, 26, 0, 3, 8, 263), x_0, x_0, (.arraylength, 27, 0, 0, 0, 0), (.if_icmp .ge 29, 30, 56, 0, 0, 0), x_0, x_0, (.aload_n 0, 31, 0, 0, 0, 0), (.aload_n 0, 32, 0, 0, 0, 0), (.getfield 27, 35, 0, 3, 8, 263), x_0, x_0, (.iload_n 3, 36, 0, 0, 0, 0), (.aaload, 37, 0, 0, 0, 0), (.iload_n 1, 38, 0, 0, 0, 0), (.invokevirtual 235, 41, 134, 2, 8, 528), x_0, x_0, (.ifCond .le 9, 44, 50, 0, 0, 0), x_0, x_0, (.iload_n 2, 45, 0, 0, 0, 0), (.iconst 1, 46, 0, 0, 0, 0), (.iload_n 3, 47, 0, 0, 0, 0), (.ishl, 48, 0, 0, 0, 0), (.ior, 49, 0, 0, 0, 0), (.istore_n 2, 50, 0, 0, 0, 0), (.iinc 3 1, 53, 0, 0, 0, 0), x_0, x_0, (.goto (-40), 56, 13, 0, 0, 0), x_0, x_0, (.iload_n 2, 57, 0, 0, 0, 0), (.ireturn, 58, 0, 0, 0, 0)])
def mX8_stays : XM := (yX8_stays, cX8_stays, 4, (some (.int)), [(.aload_n 0, 1, 0, 0, 0, 0), (.iload_n 1, 2, 0, 0, 0, 0), (.invokevirtual 166, 5, 127, 1, 8, 482), x_0, x_0, (.astore_n 2, 6, 0, 0, 0, 0), (.aload_n 2, 7, 0, 0, 0, 0), (.ifnonnull 5, 10, 12, 0, 0, 0), x_0, x_0, (.iconst (-1), 11, 0, 0, 0, 0), (.ireturn, 12, 0, 0, 0, 0), (.iconst 0, 13, 0, 0, 0, 0), (.istore_n 3, 14, 0, 0, 0, 0), (.iload_n 3, 15, 0, 0, 0, 0), (.bipush 100, 17, 0, 0, 0, 0), x_0, (.if_icmp .ge 18, 20, 35, 0, 0, 0), x_0, x_0, (.aload_n 0, 21, 0, 0, 0, 0), (.aload_n 2, 22, 0, 0, 0, 0), (.iload_n 3, 23, 0, 0, 0, 0), (.invokevirtual 235, 26, 134, 2, 8, 528), x_0, x_0, (.ifCond .le 9, 29, 35, 0, 0, 0), x_0, x_0, (.iinc 3 1, 32, 0, 0, 0, 0), x_0, x_0, (.goto (-18), 35, 14, 0, 0, 0), x_0, x_0, (.iload_n 3, 36, 0, 0, 0, 0), (.ireturn, 37, 0, 0, 0, 0)])
def mX8_ahead : XM := (yX8_ahead, cX8_ahead, 7, (some (.int)), [(.aload_n 0, 1, 0, 0, 0, 0), (.iload_n 1, 2, 0, 0, 0, 0), (.invokevirtual 166, 5, 127, 1, 8, 482), x_0, x_0, (.astore_n 2, 6, 0, 0, 0, 0), (.aload_n 2, 7, 0, 0, 0, 0), (.ifnonnull 5, 10, 12, 0, 0, 0), x_0, x_0, (.iconst (-1), 11, 0, 0, 0, 0), (.ireturn, 12, 0, 0, 0, 0), (.iconst 0, 13, 0, 0, 0, 0), (.istore_n 3, 14, 0, 0, 0, 0), (.iconst (-1), 15, 0, 0, 0, 0), (.istore 4, 17, 0, 0, 0, 0), x_0, (.iconst 0, 18, 0, 0, 0, 0), (.istore 5, 20, 0, 0, 0, 0), x_0, (.iload 5, 22, 0, 0, 0, 0), x_0, (.bipush 24, 24, 0, 0, 0, 0), x_0, (.if_icmp .ge 32, 27, 56, 0, 0, 0), x_0, x_0, (.aload_n 0, 28, 0, 0, 0, 0), (.aload_n 2, 29, 0, 0, 0, 0), (.iload 5, 31, 0, 0, 0, 0), x_0, (.invokevirtual 238, 34, 136, 2, 8, 662), x_0, x_0, (.istore 6, 36, 0, 0, 0, 0), x_0, (.iload 6, 38, 0, 0, 0, 0), x_0, (.iload 4, 40, 0, 0, 0, 0), x_0, (.if_icmp .le 10, 43, 50, 0, 0, 0), x_0, x_0, (.iload 6, 45, 0, 0, 0, 0), x_0, (.istore 4, 47, 0, 0, 0, 0), x_0, (.iload 5, 49, 0, 0, 0, 0), x_0, (.istore_n 3, 50, 0, 0, 0, 0), (.iinc 5 1, 53, 0, 0, 0, 0), x_0, x_0, (.goto (-33), 56, 20, 0, 0, 0), x_0, x_0, (.aload_n 0, 57, 0, 0, 0, 0), (.iload 4, 59, 0, 0, 0, 0), x_0, (.putfield 90, 62, 0, 14, 8, 274), x_0, x_0, (.iload_n 3, 63, 0, 0, 0, 0), (.ireturn, 64, 0, 0, 0, 0)])
def mX8_effort : XM := (yX8_effort, cX8_effort, 2, (some (.int)), [(.iload_n 1, 1, 0, 0, 0, 0), (.bipush (-6), 3, 0, 0, 0, 0), x_0, (.if_icmp .lt 9, 6, 12, 0, 0, 0), x_0, x_0, (.iload_n 1, 7, 0, 0, 0, 0), (.bipush 6, 9, 0, 0, 0, 0), x_0, (.if_icmp .le 5, 12, 14, 0, 0, 0), x_0, x_0, (.iconst (-1), 13, 0, 0, 0, 0), (.ireturn, 14, 0, 0, 0, 0), (.aload_n 0, 15, 0, 0, 0, 0), (.getfield 39, 18, 0, 5, 8, 265), x_0, x_0, (.aload_n 0, 19, 0, 0, 0, 0), (.getfield 46, 22, 0, 6, 8, 266), x_0, x_0, (.invokevirtual 191, 25, 45, 0, 3, 532), x_0, x_0, (.iload_n 1, 26, 0, 0, 0, 0), (.invokevirtual 241, 29, 74, 2, 6, 671), x_0, x_0, (.ireturn, 30, 0, 0, 0, 0)])
def mX8_follow : XM := (yX8_follow, cX8_follow, 7, (some (.int)), [(.aload_n 0, 1, 0, 0, 0, 0), (.iload_n 1, 2, 0, 0, 0, 0), (.invokevirtual 166, 5, 127, 1, 8, 482), x_0, x_0, (.astore 4, 7, 0, 0, 0, 0), x_0, (.aload_n 0, 8, 0, 0, 0, 0), (.getfield 9, 11, 0, 0, 8, 260), x_0, x_0, (.iload_n 3, 12, 0, 0, 0, 0), (.invokestatic 106, 15, 126, 2, 8, 316), x_0, x_0, (.astore 5, 17, 0, 0, 0, 0), x_0, (.aload 4, 19, 0, 0, 0, 0), x_0, (.ifnull 15, 22, 34, 0, 0, 0), x_0, x_0, (.aload 5, 24, 0, 0, 0, 0), x_0, (.ifnull 10, 27, 34, 0, 0, 0), x_0, x_0, (.iload_n 2, 28, 0, 0, 0, 0), (.invokestatic 244, 31, 125, 1, 8, 676), x_0, x_0, (.ifCond .eq 5, 34, 36, 0, 0, 0), x_0, x_0, (.iconst (-1), 35, 0, 0, 0, 0), (.ireturn, 36, 0, 0, 0, 0), (.aload_n 0, 37, 0, 0, 0, 0), (.getfield 57, 40, 0, 8, 8, 268), x_0, x_0, (.aload 4, 42, 0, 0, 0, 0), x_0, (.aload_n 0, 43, 0, 0, 0, 0), (.getfield 39, 46, 0, 5, 8, 265), x_0, x_0, (.aload_n 0, 47, 0, 0, 0, 0), (.getfield 46, 50, 0, 6, 8, 266), x_0, x_0, (.invokevirtual 178, 53, 44, 0, 3, 494), x_0, x_0, (.iload_n 2, 54, 0, 0, 0, 0), (.invokevirtual 247, 57, 77, 4, 7, 679), x_0, x_0, (.aload_n 0, 58, 0, 0, 0, 0), (.getfield 66, 61, 0, 9, 8, 269), x_0, x_0, (.aload_n 0, 62, 0, 0, 0, 0), (.getfield 46, 65, 0, 6, 8, 266), x_0, x_0, (.invokevirtual 191, 68, 45, 0, 3, 532), x_0, x_0, (.iload_n 2, 69, 0, 0, 0, 0), (.iconst 0, 70, 0, 0, 0, 0), (.invokevirtual 251, 73, 1, 3, 0, 686), x_0, x_0, (.istore 6, 75, 0, 0, 0, 0), x_0, (.iload 6, 77, 0, 0, 0, 0), x_0, (.bipush (-9), 79, 0, 0, 0, 0), x_0, (.if_icmp .eq 20, 82, 99, 0, 0, 0), x_0, x_0, (.aload_n 0, 83, 0, 0, 0, 0), (.getfield 66, 86, 0, 9, 8, 269), x_0, x_0, (.aload_n 0, 87, 0, 0, 0, 0), (.getfield 46, 90, 0, 6, 8, 266), x_0, x_0, (.invokevirtual 191, 93, 45, 0, 3, 532), x_0, x_0, (.iload_n 2, 94, 0, 0, 0, 0), (.aload 5, 96, 0, 0, 0, 0), x_0, (.invokevirtual 255, 99, 2, 3, 0, 710), x_0, x_0, (.iload 6, 101, 0, 0, 0, 0), x_0, (.ireturn, 102, 0, 0, 0, 0)])
def mX8_turns : XM := (yX8_turns, cX8_turns, 4, (some (.int)), [(.aload_n 0, 1, 0, 0, 0, 0), (.iload_n 1, 2, 0, 0, 0, 0), (.invokevirtual 166, 5, 127, 1, 8, 482), x_0, x_0, (.astore_n 3, 6, 0, 0, 0, 0), (.aload_n 3, 7, 0, 0, 0, 0), (.ifnull 10, 10, 17, 0, 0, 0), x_0, x_0, (.iload_n 2, 11, 0, 0, 0, 0), (.invokestatic 244, 14, 125, 1, 8, 676), x_0, x_0, (.ifCond .eq 5, 17, 19, 0, 0, 0), x_0, x_0, (.iconst (-1), 18, 0, 0, 0, 0), (.ireturn, 19, 0, 0, 0, 0), (.aload_n 0, 20, 0, 0, 0, 0), (.getfield 57, 23, 0, 8, 8, 268), x_0, x_0, (.aload_n 3, 24, 0, 0, 0, 0), (.aload_n 0, 25, 0, 0, 0, 0), (.getfield 39, 28, 0, 5, 8, 265), x_0, x_0, (.aload_n 0, 29, 0, 0, 0, 0), (.getfield 46, 32, 0, 6, 8, 266), x_0, x_0, (.invokevirtual 178, 35, 44, 0, 3, 494), x_0, x_0, (.iload_n 2, 36, 0, 0, 0, 0), (.invokevirtual 247, 39, 77, 4, 7, 679), x_0, x_0, (.aload_n 0, 40, 0, 0, 0, 0), (.getfield 66, 43, 0, 9, 8, 269), x_0, x_0, (.aload_n 0, 44, 0, 0, 0, 0), (.getfield 46, 47, 0, 6, 8, 266), x_0, x_0, (.invokevirtual 191, 50, 45, 0, 3, 532), x_0, x_0, (.iload_n 2, 51, 0, 0, 0, 0), (.iconst 1, 52, 0, 0, 0, 0), (.invokevirtual 251, 55, 1, 3, 0, 686), x_0, x_0, (.ireturn, 56, 0, 0, 0, 0)])
def mX8_most : XM := (yX8_most, cX8_most, 5, (some (.int)), [(.aload_n 0, 1, 0, 0, 0, 0), (.iload_n 1, 2, 0, 0, 0, 0), (.invokevirtual 166, 5, 127, 1, 8, 482), x_0, x_0, (.astore 4, 7, 0, 0, 0, 0), x_0, (.aload 4, 9, 0, 0, 0, 0), x_0, (.ifnull 20, 12, 29, 0, 0, 0), x_0, x_0, (.iload_n 2, 13, 0, 0, 0, 0), (.invokestatic 244, 16, 125, 1, 8, 676), x_0, x_0, (.ifCond .ne 13, 19, 29, 0, 0, 0), x_0, x_0, (.iload_n 3, 20, 0, 0, 0, 0), (.ifCond .lt 9, 23, 29, 0, 0, 0), x_0, x_0, (.iload_n 3, 24, 0, 0, 0, 0), (.bipush 40, 26, 0, 0, 0, 0), x_0, (.if_icmp .le 5, 29, 31, 0, 0, 0), x_0, x_0, (.iconst (-1), 30, 0, 0, 0, 0), (.ireturn, 31, 0, 0, 0, 0), (.aload_n 0, 32, 0, 0, 0, 0), (.getfield 57, 35, 0, 8, 8, 268), x_0, x_0, (.aload 4, 37, 0, 0, 0, 0), x_0, (.aload_n 0, 38, 0, 0, 0, 0), (.getfield 39, 41, 0, 5, 8, 265), x_0, x_0, (.aload_n 0, 42, 0, 0, 0, 0), (.getfield 46, 45, 0, 6, 8, 266), x_0, x_0, (.invokevirtual 178, 48, 44, 0, 3, 494), x_0, x_0, (.iload_n 2, 49, 0, 0, 0, 0), (.invokevirtual 247, 52, 77, 4, 7, 679), x_0, x_0, (.aload_n 0, 53, 0, 0, 0, 0), (.getfield 66, 56, 0, 9, 8, 269), x_0, x_0, (.aload_n 0, 57, 0, 0, 0, 0), (.getfield 46, 60, 0, 6, 8, 266), x_0, x_0, (.invokevirtual 191, 63, 45, 0, 3, 532), x_0, x_0, (.iload_n 2, 64, 0, 0, 0, 0), (.iload_n 3, 65, 0, 0, 0, 0), (.invokevirtual 259, 68, 4, 3, 0, 724), x_0, x_0, (.ireturn, 69, 0, 0, 0, 0)])
def mX8_by : XM := (yX8_by, cX8_by, 11, (some (.int)), [(.aload_n 0, 1, 0, 0, 0, 0), (.iload_n 1, 2, 0, 0, 0, 0), (.invokevirtual 166, 5, 127, 1, 8, 482), x_0, x_0, (.astore_n 3, 6, 0, 0, 0, 0), (.aload_n 0, 7, 0, 0, 0, 0), (.getfield 9, 10, 0, 0, 8, 260), x_0, x_0, (.iload_n 2, 11, 0, 0, 0, 0), (.invokestatic 106, 14, 126, 2, 8, 316), x_0, x_0, (.astore 4, 16, 0, 0, 0, 0), x_0, (.aload_n 3, 17, 0, 0, 0, 0), (.ifnull 8, 20, 25, 0, 0, 0), x_0, x_0, (.aload 4, 22, 0, 0, 0, 0), x_0, (.ifnonnull 5, 25, 27, 0, 0, 0), x_0, x_0, (.iconst (-1), 26, 0, 0, 0, 0), (.ireturn, 27, 0, 0, 0, 0), (.aload_n 0, 28, 0, 0, 0, 0), (.aload 4, 30, 0, 0, 0, 0), x_0, (.invokevirtual 263, 33, 132, 1, 8, 742), x_0, x_0, (.istore 5, 35, 0, 0, 0, 0), x_0, (.iload 5, 37, 0, 0, 0, 0), x_0, (.ifCond .eq 6, 40, 43, 0, 0, 0), x_0, x_0, (.iload 5, 42, 0, 0, 0, 0), x_0, (.ireturn, 43, 0, 0, 0, 0), (.aload_n 0, 44, 0, 0, 0, 0), (.getfield 46, 47, 0, 6, 8, 266), x_0, x_0, (.invokevirtual 191, 50, 45, 0, 3, 532), x_0, x_0, (.istore 6, 52, 0, 0, 0, 0), x_0, (.iconst 0, 53, 0, 0, 0, 0), (.istore 7, 55, 0, 0, 0, 0), x_0, (.iconst 0, 56, 0, 0, 0, 0), (.istore 8, 58, 0, 0, 0, 0), x_0, (.iconst 0, 59, 0, 0, 0, 0), (.istore 9, 61, 0, 0, 0, 0), x_0, (.iload 9, 63, 0, 0, 0, 0), x_0, (.aload 4, 65, 0, 0, 0, 0), x_0, (.invokevirtual 148, 68, 26, 0, 2, 402), x_0, x_0, (.if_icmp .ge 69, 71, 137, 0, 0, 0), x_0, x_0, (.aload 4, 73, 0, 0, 0, 0), x_0, (.iload 9, 75, 0, 0, 0, 0), x_0, (.invokevirtual 118, 78, 32, 1, 2, 361), x_0, x_0, (.istore 10, 80, 0, 0, 0, 0), x_0, (.iload 7, 82, 0, 0, 0, 0), x_0, (.aload_n 0, 83, 0, 0, 0, 0), (.getfield 39, 86, 0, 5, 8, 265), x_0, x_0, (.iload 6, 88, 0, 0, 0, 0), x_0, (.iload 10, 90, 0, 0, 0, 0), x_0, (.invokevirtual 241, 93, 74, 2, 6, 671), x_0, x_0, (.iadd, 94, 0, 0, 0, 0), (.istore 7, 96, 0, 0, 0, 0), x_0, (.iload 6, 98, 0, 0, 0, 0), x_0, (.iload 10, 100, 0, 0, 0, 0), x_0, (.iadd, 101, 0, 0, 0, 0), (.invokestatic 266, 104, 123, 1, 8, 750), x_0, x_0, (.istore 6, 106, 0, 0, 0, 0), x_0, (.iload 8, 108, 0, 0, 0, 0), x_0, (.aload_n 0, 109, 0, 0, 0, 0), (.getfield 39, 112, 0, 5, 8, 265), x_0, x_0, (.iload 6, 114, 0, 0, 0, 0), x_0, (.aload_n 3, 115, 0, 0, 0, 0), (.aload_n 0, 116, 0, 0, 0, 0), (.getfield 46, 119, 0, 6, 8, 266), x_0, x_0, (.invokevirtual 178, 122, 44, 0, 3, 494), x_0, x_0, (.iload 9, 124, 0, 0, 0, 0), x_0, (.iadd, 125, 0, 0, 0, 0), (.invokevirtual 269, 128, 73, 3, 6, 536), x_0, x_0, (.iadd, 129, 0, 0, 0, 0), (.istore 8, 131, 0, 0, 0, 0), x_0, (.iinc 9 1, 134, 0, 0, 0, 0), x_0, x_0, (.goto (-73), 137, 61, 0, 0, 0), x_0, x_0, (.aload_n 0, 138, 0, 0, 0, 0), (.iload 7, 140, 0, 0, 0, 0), x_0, (.putfield 90, 143, 0, 14, 8, 274), x_0, x_0, (.iload 8, 145, 0, 0, 0, 0), x_0, (.ireturn, 146, 0, 0, 0, 0)])
def mX8_order : XM := (yX8_order, cX8_order, 3, (some (.int)), [(.aload_n 0, 1, 0, 0, 0, 0), (.getfield 9, 4, 0, 0, 8, 260), x_0, x_0, (.iload_n 1, 5, 0, 0, 0, 0), (.invokestatic 106, 8, 126, 2, 8, 316), x_0, x_0, (.astore_n 2, 9, 0, 0, 0, 0), (.aload_n 2, 10, 0, 0, 0, 0), (.ifnonnull 5, 13, 15, 0, 0, 0), x_0, x_0, (.iconst (-1), 14, 0, 0, 0, 0), (.ireturn, 15, 0, 0, 0, 0), (.aload_n 0, 16, 0, 0, 0, 0), (.getfield 83, 19, 0, 12, 8, 272), x_0, x_0, (.ifCond .ne 6, 22, 25, 0, 0, 0), x_0, x_0, (.bipush (-4), 24, 0, 0, 0, 0), x_0, (.ireturn, 25, 0, 0, 0, 0), (.aload_n 0, 26, 0, 0, 0, 0), (.getfield 66, 29, 0, 9, 8, 269), x_0, x_0, (.aload_n 0, 30, 0, 0, 0, 0), (.getfield 27, 33, 0, 3, 8, 263), x_0, x_0, (.aload_n 0, 34, 0, 0, 0, 0), (.getfield 83, 37, 0, 12, 8, 272), x_0, x_0, (.aload_n 0, 38, 0, 0, 0, 0), (.getfield 46, 41, 0, 6, 8, 266), x_0, x_0, (.aload_n 2, 42, 0, 0, 0, 0), (.invokevirtual 273, 45, 8, 4, 0, 755), x_0, x_0, (.ireturn, 46, 0, 0, 0, 0)])
def mX8_kinds : XM := (yX8_kinds, cX8_kinds, 3, (some (.int)), [(.aload_n 0, 1, 0, 0, 0, 0), (.iload_n 1, 2, 0, 0, 0, 0), (.iload_n 2, 3, 0, 0, 0, 0), (.iconst 0, 4, 0, 0, 0, 0), (.invokevirtual 277, 7, 137, 3, 8, 778), x_0, x_0, (.ireturn, 8, 0, 0, 0, 0)])
def mX8_places : XM := (yX8_places, cX8_places, 3, (some (.int)), [(.aload_n 0, 1, 0, 0, 0, 0), (.iload_n 1, 2, 0, 0, 0, 0), (.iload_n 2, 3, 0, 0, 0, 0), (.iconst 1, 4, 0, 0, 0, 0), (.invokevirtual 277, 7, 137, 3, 8, 778), x_0, x_0, (.ireturn, 8, 0, 0, 0, 0)])
def mX8_speeds : XM := (yX8_speeds, cX8_speeds, 3, (some (.int)), [(.aload_n 0, 1, 0, 0, 0, 0), (.iload_n 1, 2, 0, 0, 0, 0), (.iload_n 2, 3, 0, 0, 0, 0), (.iconst 2, 4, 0, 0, 0, 0), (.invokevirtual 277, 7, 137, 3, 8, 778), x_0, x_0, (.ireturn, 8, 0, 0, 0, 0)])
def mX8_fainter : XM := (yX8_fainter, cX8_fainter, 10, (some (.int)), [(.aload_n 0, 1, 0, 0, 0, 0), (.iload_n 1, 2, 0, 0, 0, 0), (.invokevirtual 166, 5, 127, 1, 8, 482), x_0, x_0, (.astore_n 3, 6, 0, 0, 0, 0), (.aload_n 0, 7, 0, 0, 0, 0), (.getfield 9, 10, 0, 0, 8, 260), x_0, x_0, (.iload_n 2, 11, 0, 0, 0, 0), (.invokestatic 106, 14, 126, 2, 8, 316), x_0, x_0, (.astore 4, 16, 0, 0, 0, 0), x_0, (.aload_n 3, 17, 0, 0, 0, 0), (.ifnull 8, 20, 25, 0, 0, 0), x_0, x_0, (.aload 4, 22, 0, 0, 0, 0), x_0, (.ifnonnull 5, 25, 27, 0, 0, 0), x_0, x_0, (.iconst (-1), 26, 0, 0, 0, 0), (.ireturn, 27, 0, 0, 0, 0), (.aload_n 0, 28, 0, 0, 0, 0), (.aload 4, 30, 0, 0, 0, 0), x_0, (.invokevirtual 280, 33, 133, 1, 8, 782), x_0, x_0, (.istore 5, 35, 0, 0, 0, 0), x_0, (.iload 5, 37, 0, 0, 0, 0), x_0, (.ifCond .eq 6, 40, 43, 0, 0, 0), x_0, x_0, (.iload 5, 42, 0, 0, 0, 0), x_0, (.ireturn, 43, 0, 0, 0, 0), (.aload 4, 45, 0, 0, 0, 0), x_0, (.invokevirtual 283, 48, 37, 0, 2, 808), x_0, x_0, (.istore 6, 50, 0, 0, 0, 0), x_0, (.aload_n 0, 51, 0, 0, 0, 0), (.iload 6, 53, 0, 0, 0, 0), x_0, (.putfield 90, 56, 0, 14, 8, 274), x_0, x_0, (.iload 6, 58, 0, 0, 0, 0), x_0, (.bipush (-9), 60, 0, 0, 0, 0), x_0, (.if_icmp .ne 5, 63, 65, 0, 0, 0), x_0, x_0, (.iconst 0, 64, 0, 0, 0, 0), (.ireturn, 65, 0, 0, 0, 0), (.aload_n 0, 66, 0, 0, 0, 0), (.getfield 46, 69, 0, 6, 8, 266), x_0, x_0, (.invokevirtual 178, 72, 44, 0, 3, 494), x_0, x_0, (.iload 6, 74, 0, 0, 0, 0), x_0, (.iadd, 75, 0, 0, 0, 0), (.istore 7, 77, 0, 0, 0, 0), x_0, (.aload_n 3, 78, 0, 0, 0, 0), (.iload 7, 80, 0, 0, 0, 0), x_0, (.invokevirtual 232, 83, 20, 1, 1, 520), x_0, x_0, (.aload_n 3, 84, 0, 0, 0, 0), (.iload 7, 86, 0, 0, 0, 0), x_0, (.iconst 1, 87, 0, 0, 0, 0), (.isub, 88, 0, 0, 0, 0), (.invokevirtual 232, 91, 20, 1, 1, 520), x_0, x_0, (.if_icmp .ge 7, 94, 98, 0, 0, 0), x_0, x_0, (.iconst 1, 95, 0, 0, 0, 0), (.goto 4, 98, 99, 0, 0, 0), x_0, x_0, (.iconst 0, 99, 0, 0, 0, 0), (.istore 8, 101, 0, 0, 0, 0), x_0, (.aload_n 0, 102, 0, 0, 0, 0), (.aload_n 3, 103, 0, 0, 0, 0), (.iload 7, 105, 0, 0, 0, 0), x_0, (.invokevirtual 286, 108, 135, 2, 8, 812), x_0, x_0, (.aload_n 0, 109, 0, 0, 0, 0), (.aload_n 3, 110, 0, 0, 0, 0), (.iload 7, 112, 0, 0, 0, 0), x_0, (.iconst 1, 113, 0, 0, 0, 0), (.isub, 114, 0, 0, 0, 0), (.invokevirtual 286, 117, 135, 2, 8, 812), x_0, x_0, (.if_icmp .ge 7, 120, 124, 0, 0, 0), x_0, x_0, (.iconst 1, 121, 0, 0, 0, 0), (.goto 4, 124, 125, 0, 0, 0), x_0, x_0, (.iconst 0, 125, 0, 0, 0, 0), (.istore 9, 127, 0, 0, 0, 0), x_0, (.iload 8, 129, 0, 0, 0, 0), x_0, (.ifCond .eq 7, 132, 136, 0, 0, 0), x_0, x_0, (.iconst 1, 133, 0, 0, 0, 0), (.goto 4, 136, 137, 0, 0, 0), x_0, x_0, (.iconst 0, 137, 0, 0, 0, 0), (.iload 9, 139, 0, 0, 0, 0), x_0, (.ifCond .eq 7, 142, 146, 0, 0, 0), x_0, x_0, (.iconst 2, 143, 0, 0, 0, 0), (.goto 4, 146, 147, 0, 0, 0), x_0, x_0, (.iconst 0, 147, 0, 0, 0, 0), (.iadd, 148, 0, 0, 0, 0), (.ireturn, 149, 0, 0, 0, 0)])
def mX8_cloud : XM := (yX8_cloud, cX8_cloud, 4, (some (.int)), [(.aload_n 0, 1, 0, 0, 0, 0), (.iload_n 1, 2, 0, 0, 0, 0), (.invokevirtual 166, 5, 127, 1, 8, 482), x_0, x_0, (.astore_n 3, 6, 0, 0, 0, 0), (.aload_n 3, 7, 0, 0, 0, 0), (.ifnull 12, 10, 19, 0, 0, 0), x_0, x_0, (.iload_n 2, 11, 0, 0, 0, 0), (.ifCond .lt 8, 14, 19, 0, 0, 0), x_0, x_0, (.iload_n 2, 15, 0, 0, 0, 0), (.iconst 4, 16, 0, 0, 0, 0), (.if_icmp .le 5, 19, 21, 0, 0, 0), x_0, x_0, (.iconst (-1), 20, 0, 0, 0, 0), (.ireturn, 21, 0, 0, 0, 0), (.aload_n 0, 22, 0, 0, 0, 0), (.getfield 57, 25, 0, 8, 8, 268), x_0, x_0, (.aload_n 3, 26, 0, 0, 0, 0), (.aload_n 0, 27, 0, 0, 0, 0), (.getfield 39, 30, 0, 5, 8, 265), x_0, x_0, (.aload_n 0, 31, 0, 0, 0, 0), (.getfield 46, 34, 0, 6, 8, 266), x_0, x_0, (.invokevirtual 178, 37, 44, 0, 3, 494), x_0, x_0, (.iload_n 2, 38, 0, 0, 0, 0), (.invokevirtual 247, 41, 77, 4, 7, 679), x_0, x_0, (.aload_n 0, 42, 0, 0, 0, 0), (.getfield 66, 45, 0, 9, 8, 269), x_0, x_0, (.aload_n 0, 46, 0, 0, 0, 0), (.getfield 46, 49, 0, 6, 8, 266), x_0, x_0, (.invokevirtual 191, 52, 45, 0, 3, 532), x_0, x_0, (.iload_n 2, 53, 0, 0, 0, 0), (.invokevirtual 289, 56, 6, 2, 0, 820), x_0, x_0, (.ireturn, 57, 0, 0, 0, 0)])
def mX8_mid : XM := (yX8_mid, cX8_mid, 4, (some (.int)), [(.aload_n 0, 1, 0, 0, 0, 0), (.iload_n 1, 2, 0, 0, 0, 0), (.iload_n 2, 3, 0, 0, 0, 0), (.iload_n 3, 4, 0, 0, 0, 0), (.iconst 0, 5, 0, 0, 0, 0), (.invokevirtual 292, 8, 140, 4, 8, 832), x_0, x_0, (.ireturn, 9, 0, 0, 0, 0)])
def mX8_odds : XM := (yX8_odds, cX8_odds, 4, (some (.int)), [(.aload_n 0, 1, 0, 0, 0, 0), (.iload_n 1, 2, 0, 0, 0, 0), (.iload_n 2, 3, 0, 0, 0, 0), (.iload_n 3, 4, 0, 0, 0, 0), (.iconst 1, 5, 0, 0, 0, 0), (.invokevirtual 292, 8, 140, 4, 8, 832), x_0, x_0, (.ireturn, 9, 0, 0, 0, 0)])
def mX8_lots : XM := (yX8_lots, cX8_lots, 8, (some (.int)), [(.iload_n 1, 1, 0, 0, 0, 0), (.iconst 1, 2, 0, 0, 0, 0), (.if_icmp .lt 21, 5, 23, 0, 0, 0), x_0, x_0, (.iload_n 1, 6, 0, 0, 0, 0), (.bipush 20, 8, 0, 0, 0, 0), x_0, (.if_icmp .gt 15, 11, 23, 0, 0, 0), x_0, x_0, (.iload_n 2, 12, 0, 0, 0, 0), (.iconst 1, 13, 0, 0, 0, 0), (.if_icmp .lt 10, 16, 23, 0, 0, 0), x_0, x_0, (.iload_n 2, 17, 0, 0, 0, 0), (.ldc_w 296, 20, 2147483646, 0, 0, 879), x_0, x_0, (.if_icmp .le 5, 23, 25, 0, 0, 0), x_0, x_0, (.iconst (-1), 24, 0, 0, 0, 0), (.ireturn, 25, 0, 0, 0, 0), (.aload_n 0, 26, 0, 0, 0, 0), (.getfield 83, 29, 0, 12, 8, 272), x_0, x_0, (.ifCond .ne 6, 32, 35, 0, 0, 0), x_0, x_0, (.bipush (-4), 34, 0, 0, 0, 0), x_0, (.ireturn, 35, 0, 0, 0, 0), (.aload_n 0, 36, 0, 0, 0, 0), (.getfield 46, 39, 0, 6, 8, 266), x_0, x_0, (.iconst 2, 40, 0, 0, 0, 0), (.iload_n 1, 41, 0, 0, 0, 0), (.imul, 42, 0, 0, 0, 0), (.invokevirtual 205, 45, 47, 1, 3, 574), x_0, x_0, (.ifCond .ne 6, 48, 51, 0, 0, 0), x_0, x_0, (.bipush (-2), 50, 0, 0, 0, 0), x_0, (.ireturn, 51, 0, 0, 0, 0), (.iload_n 2, 52, 0, 0, 0, 0), (.i2l, 53, 0, 0, 0, 0), (.lstore_n 3, 54, 0, 0, 0, 0), (.iconst 0, 55, 0, 0, 0, 0), (.istore 5, 57, 0, 0, 0, 0), x_0, (.iconst 0, 58, 0, 0, 0, 0), (.istore 6, 60, 0, 0, 0, 0), x_0, (.iload 6, 62, 0, 0, 0, 0), x_0, (.iload_n 1, 63, 0, 0, 0, 0), (.if_icmp .ge 61, 66, 124, 0, 0, 0), x_0, x_0, (.lload_n 3, 67, 0, 0, 0, 0), (.ldc2_w 297, 70, 48271, 0, 0, 880), x_0, x_0, (.lmul, 71, 0, 0, 0, 0), (.ldc2_w 299, 74, 2147483647, 0, 0, 881), x_0, x_0, (.lrem, 75, 0, 0, 0, 0), (.lstore_n 3, 76, 0, 0, 0, 0), (.lload_n 3, 77, 0, 0, 0, 0), (.ldc2_w 301, 80, 16, 0, 0, 882), x_0, x_0, (.ldiv, 81, 0, 0, 0, 0), (.ldc2_w 303, 84, 5, 0, 0, 883), x_0, x_0, (.lrem, 85, 0, 0, 0, 0), (.l2i, 86, 0, 0, 0, 0), (.iconst 2, 87, 0, 0, 0, 0), (.isub, 88, 0, 0, 0, 0), (.istore 7, 90, 0, 0, 0, 0), x_0, (.iload 7, 92, 0, 0, 0, 0), x_0, (.ifCond .eq 17, 95, 109, 0, 0, 0), x_0, x_0, (.aload_n 0, 96, 0, 0, 0, 0), (.getfield 46, 99, 0, 6, 8, 266), x_0, x_0, (.iload 7, 101, 0, 0, 0, 0), x_0, (.aload_n 0, 102, 0, 0, 0, 0), (.getfield 39, 105, 0, 5, 8, 265), x_0, x_0, (.invokevirtual 211, 108, 49, 2, 3, 595), x_0, x_0, (.pop, 109, 0, 0, 0, 0), (.iload 5, 111, 0, 0, 0, 0), x_0, (.aload_n 0, 112, 0, 0, 0, 0), (.invokevirtual 208, 115, 139, 0, 8, 578), x_0, x_0, (.iadd, 116, 0, 0, 0, 0), (.istore 5, 118, 0, 0, 0, 0), x_0, (.iinc 6 1, 121, 0, 0, 0, 0), x_0, x_0, (.goto (-61), 124, 60, 0, 0, 0), x_0, x_0, (.iload 5, 126, 0, 0, 0, 0), x_0, (.ireturn, 127, 0, 0, 0, 0)])
def mX8_asked : XM := (yX8_asked, cX8_asked, 1, (some (.int)), [(.aload_n 0, 1, 0, 0, 0, 0), (.getfield 90, 4, 0, 14, 8, 274), x_0, x_0, (.ireturn, 5, 0, 0, 0, 0)])
def mX8_upper : XM := (yX8_upper, cX8_upper, 1, (some (.long)), [(.aload_n 0, 1, 0, 0, 0, 0), (.getfield 93, 4, 0, 15, 8, 275), x_0, x_0, (.lreturn, 5, 0, 0, 0, 0)])
def mX8_lower : XM := (yX8_lower, cX8_lower, 1, (some (.long)), [(.aload_n 0, 1, 0, 0, 0, 0), (.getfield 97, 4, 0, 16, 8, 276), x_0, x_0, (.lreturn, 5, 0, 0, 0, 0)])
def mX8_count : XM := (yX8_count, cX8_count, 2, (some (.int)), [(.iload_n 1, 1, 0, 0, 0, 0), (.ifCond .lt 9, 4, 10, 0, 0, 0), x_0, x_0, (.iload_n 1, 5, 0, 0, 0, 0), (.bipush 11, 7, 0, 0, 0, 0), x_0, (.if_icmp .lt 5, 10, 12, 0, 0, 0), x_0, x_0, (.iconst (-1), 11, 0, 0, 0, 0), (.ireturn, 12, 0, 0, 0, 0), (.aload_n 0, 13, 0, 0, 0, 0), (.iload_n 1, 14, 0, 0, 0, 0), (.invokevirtual 305, 17, 144, 1, 8, 900), x_0, x_0, (.ireturn, 18, 0, 0, 0, 0)])
def mX8_finding : XM := (yX8_finding, cX8_finding, 1, (some (.int)), [(.aload_n 0, 1, 0, 0, 0, 0), (.getfield 87, 4, 0, 13, 8, 273), x_0, x_0, (.ireturn, 5, 0, 0, 0, 0)])
def mX8_findings : XM := (yX8_findings, cX8_findings, 2, (some (.int)), [(.iload_n 1, 1, 0, 0, 0, 0), (.iconst 1, 2, 0, 0, 0, 0), (.if_icmp .lt 8, 5, 10, 0, 0, 0), x_0, x_0, (.iload_n 1, 6, 0, 0, 0, 0), (.iconst 5, 7, 0, 0, 0, 0), (.if_icmp .le 5, 10, 12, 0, 0, 0), x_0, x_0, (.iconst (-1), 11, 0, 0, 0, 0), (.ireturn, 12, 0, 0, 0, 0), (.aload_n 0, 13, 0, 0, 0, 0), (.getfield 79, 16, 0, 11, 8, 271), x_0, x_0, (.iload_n 1, 17, 0, 0, 0, 0), (.iaload, 18, 0, 0, 0, 0), (.ireturn, 19, 0, 0, 0, 0)])
def mX8_digest : XM := (yX8_digest, cX8_digest, 5, (some (.long)), [(.ldc2_w 308, 3, 17, 0, 0, 935), x_0, x_0, (.lstore_n 1, 4, 0, 0, 0, 0), (.iconst 0, 5, 0, 0, 0, 0), (.istore_n 3, 6, 0, 0, 0, 0), (.iload_n 3, 7, 0, 0, 0, 0), (.bipush 11, 9, 0, 0, 0, 0), x_0, (.if_icmp .ge 22, 12, 31, 0, 0, 0), x_0, x_0, (.ldc2_w 310, 15, 31, 0, 0, 936), x_0, x_0, (.lload_n 1, 16, 0, 0, 0, 0), (.lmul, 17, 0, 0, 0, 0), (.aload_n 0, 18, 0, 0, 0, 0), (.iload_n 3, 19, 0, 0, 0, 0), (.invokevirtual 305, 22, 144, 1, 8, 900), x_0, x_0, (.i2l, 23, 0, 0, 0, 0), (.ladd, 24, 0, 0, 0, 0), (.lstore_n 1, 25, 0, 0, 0, 0), (.iinc 3 1, 28, 0, 0, 0, 0), x_0, x_0, (.goto (-22), 31, 6, 0, 0, 0), x_0, x_0, (.iconst 0, 32, 0, 0, 0, 0), (.istore_n 3, 33, 0, 0, 0, 0), (.iload_n 3, 34, 0, 0, 0, 0), (.aload_n 0, 35, 0, 0, 0, 0), (.getfield 83, 38, 0, 12, 8, 272), x_0, x_0, (.if_icmp .ge 54, 41, 92, 0, 0, 0), x_0, x_0, (.iload_n 3, 42, 0, 0, 0, 0), (.aload_n 0, 43, 0, 0, 0, 0), (.getfield 27, 46, 0, 3, 8, 263), x_0, x_0, (.arraylength, 47, 0, 0, 0, 0), (.if_icmp .ge 45, 50, 92, 0, 0, 0), x_0, x_0, (.iconst 0, 51, 0, 0, 0, 0), (.istore 4, 53, 0, 0, 0, 0), x_0, (.iload 4, 55, 0, 0, 0, 0), x_0, (.bipush 6, 57, 0, 0, 0, 0), x_0, (.if_icmp .ge 29, 60, 86, 0, 0, 0), x_0, x_0, (.ldc2_w 310, 63, 31, 0, 0, 936), x_0, x_0, (.lload_n 1, 64, 0, 0, 0, 0), (.lmul, 65, 0, 0, 0, 0), (.aload_n 0, 66, 0, 0, 0, 0), (.aload_n 0, 67, 0, 0, 0, 0), (.getfield 27, 70, 0, 3, 8, 263), x_0, x_0, (.iload_n 3, 71, 0, 0, 0, 0), (.aaload, 72, 0, 0, 0, 0), (.iload 4, 74, 0, 0, 0, 0), x_0, (.invokevirtual 170, 77, 143, 2, 8, 486), x_0, x_0, (.i2l, 78, 0, 0, 0, 0), (.ladd, 79, 0, 0, 0, 0), (.lstore_n 1, 80, 0, 0, 0, 0), (.iinc 4 1, 83, 0, 0, 0, 0), x_0, x_0, (.goto (-30), 86, 53, 0, 0, 0), x_0, x_0, (.iinc 3 1, 89, 0, 0, 0, 0), x_0, x_0, (.goto (-56), 92, 33, 0, 0, 0), x_0, x_0, (.iconst 0, 93, 0, 0, 0, 0), (.istore_n 3, 94, 0, 0, 0, 0), (.iload_n 3, 95, 0, 0, 0, 0), (.aload_n 0, 96, 0, 0, 0, 0), (.getfield 50, 99, 0, 7, 8, 267), x_0, x_0, (.arraylength, 100, 0, 0, 0, 0), (.if_icmp .ge 26, 103, 126, 0, 0, 0), x_0, x_0, (.ldc2_w 310, 106, 31, 0, 0, 936), x_0, x_0, (.lload_n 1, 107, 0, 0, 0, 0), (.lmul, 108, 0, 0, 0, 0), (.aload_n 0, 109, 0, 0, 0, 0), (.getfield 50, 112, 0, 7, 8, 267), x_0, x_0, (.iload_n 3, 113, 0, 0, 0, 0), (.aaload, 114, 0, 0, 0, 0), (.invokevirtual 215, 117, 43, 0, 3, 611), x_0, x_0, (.i2l, 118, 0, 0, 0, 0), (.ladd, 119, 0, 0, 0, 0), (.lstore_n 1, 120, 0, 0, 0, 0), (.iinc 3 1, 123, 0, 0, 0, 0), x_0, x_0, (.goto (-29), 126, 94, 0, 0, 0), x_0, x_0, (.iconst 0, 127, 0, 0, 0, 0), (.istore_n 3, 128, 0, 0, 0, 0), (.iload_n 3, 129, 0, 0, 0, 0), (.aload_n 0, 130, 0, 0, 0, 0), (.getfield 9, 133, 0, 0, 8, 260), x_0, x_0, (.arraylength, 134, 0, 0, 0, 0), (.if_icmp .ge 20, 137, 154, 0, 0, 0), x_0, x_0, (.aload_n 0, 138, 0, 0, 0, 0), (.getfield 9, 141, 0, 0, 8, 260), x_0, x_0, (.iload_n 3, 142, 0, 0, 0, 0), (.aaload, 143, 0, 0, 0, 0), (.lload_n 1, 144, 0, 0, 0, 0), (.invokevirtual 312, 147, 38, 1, 2, 937), x_0, x_0, (.lstore_n 1, 148, 0, 0, 0, 0), (.iinc 3 1, 151, 0, 0, 0, 0), x_0, x_0, (.goto (-23), 154, 128, 0, 0, 0), x_0, x_0, (.iconst 0, 155, 0, 0, 0, 0), (.istore_n 3, 156, 0, 0, 0, 0), (.iload_n 3, 157, 0, 0, 0, 0), (.aload_n 0, 158, 0, 0, 0, 0), (.getfield 15, 161, 0, 1, 8, 261), x_0, x_0, (.arraylength, 162, 0, 0, 0, 0), (.if_icmp .ge 20, 165, 182, 0, 0, 0), x_0, x_0, (.aload_n 0, 166, 0, 0, 0, 0), (.getfield 15, 169, 0, 1, 8, 261), x_0, x_0, (.iload_n 3, 170, 0, 0, 0, 0), (.aaload, 171, 0, 0, 0, 0), (.lload_n 1, 172, 0, 0, 0, 0), (.invokevirtual 312, 175, 38, 1, 2, 937), x_0, x_0, (.lstore_n 1, 176, 0, 0, 0, 0), (.iinc 3 1, 179, 0, 0, 0, 0), x_0, x_0, (.goto (-23), 182, 156, 0, 0, 0), x_0, x_0, (.lload_n 1, 183, 0, 0, 0, 0), (.lreturn, 184, 0, 0, 0, 0)])
def mX8_round : XM := (yX8_round, cX8_round, 1, (some (.int)), [(.iload_n 0, 1, 0, 0, 0, 0), (.bipush 24, 3, 0, 0, 0, 0), x_0, (.invokestatic 200, 6, 251, 2, 0, 509), x_0, x_0, (.ireturn, 7, 0, 0, 0, 0)])
def mX8_isTooFar : XM := (yX8_isTooFar, cX8_isTooFar, 1, (some (.boolean)), [(.iload_n 0, 1, 0, 0, 0, 0), (.ifCond .lt 9, 4, 10, 0, 0, 0), x_0, x_0, (.iload_n 0, 5, 0, 0, 0, 0), (.bipush 99, 7, 0, 0, 0, 0), x_0, (.if_icmp .le 7, 10, 14, 0, 0, 0), x_0, x_0, (.iconst 1, 11, 0, 0, 0, 0), (.goto 4, 14, 15, 0, 0, 0), x_0, x_0, (.iconst 0, 15, 0, 0, 0, 0), (.ireturn, 16, 0, 0, 0, 0)])
def mX8_isNoFollowing : XM := (yX8_isNoFollowing, cX8_isNoFollowing, 1, (some (.boolean)), [(.iload_n 0, 1, 0, 0, 0, 0), (.iconst 1, 2, 0, 0, 0, 0), (.if_icmp .lt 9, 5, 11, 0, 0, 0), x_0, x_0, (.iload_n 0, 6, 0, 0, 0, 0), (.bipush 8, 8, 0, 0, 0, 0), x_0, (.if_icmp .le 7, 11, 15, 0, 0, 0), x_0, x_0, (.iconst 1, 12, 0, 0, 0, 0), (.goto 4, 15, 16, 0, 0, 0), x_0, x_0, (.iconst 0, 16, 0, 0, 0, 0), (.ireturn, 17, 0, 0, 0, 0)])
def mX8_lineAt : XM := (yX8_lineAt, cX8_lineAt, 2, (some ((.object "DomeSlit$Line"))), [(.iload_n 1, 1, 0, 0, 0, 0), (.ifCond .lt 15, 4, 16, 0, 0, 0), x_0, x_0, (.iload_n 1, 5, 0, 0, 0, 0), (.aload_n 0, 6, 0, 0, 0, 0), (.arraylength, 7, 0, 0, 0, 0), (.if_icmp .ge 9, 10, 16, 0, 0, 0), x_0, x_0, (.aload_n 0, 11, 0, 0, 0, 0), (.iload_n 1, 12, 0, 0, 0, 0), (.aaload, 13, 0, 0, 0, 0), (.goto 4, 16, 17, 0, 0, 0), x_0, x_0, (.aconst_null, 17, 0, 0, 0, 0), (.areturn, 18, 0, 0, 0, 0)])
def mX8_lightAt : XM := (yX8_lightAt, cX8_lightAt, 2, (some ((.object "DomeSlit$Light"))), [(.iload_n 1, 1, 0, 0, 0, 0), (.ifCond .lt 29, 4, 30, 0, 0, 0), x_0, x_0, (.iload_n 1, 5, 0, 0, 0, 0), (.aload_n 0, 6, 0, 0, 0, 0), (.getfield 83, 9, 0, 12, 8, 272), x_0, x_0, (.if_icmp .ge 21, 12, 30, 0, 0, 0), x_0, x_0, (.iload_n 1, 13, 0, 0, 0, 0), (.aload_n 0, 14, 0, 0, 0, 0), (.getfield 27, 17, 0, 3, 8, 263), x_0, x_0, (.arraylength, 18, 0, 0, 0, 0), (.if_icmp .ge 12, 21, 30, 0, 0, 0), x_0, x_0, (.aload_n 0, 22, 0, 0, 0, 0), (.getfield 27, 25, 0, 3, 8, 263), x_0, x_0, (.iload_n 1, 26, 0, 0, 0, 0), (.aaload, 27, 0, 0, 0, 0), (.goto 4, 30, 31, 0, 0, 0), x_0, x_0, (.aconst_null, 31, 0, 0, 0, 0), (.areturn, 32, 0, 0, 0, 0)])
def mX8_found : XM := (yX8_found, cX8_found, 2, (some (.int)), [(.aload_n 0, 1, 0, 0, 0, 0), (.iload_n 1, 2, 0, 0, 0, 0), (.putfield 87, 5, 0, 13, 8, 273), x_0, x_0, (.iload_n 1, 6, 0, 0, 0, 0), (.ifCond .lt 22, 9, 28, 0, 0, 0), x_0, x_0, (.iload_n 1, 10, 0, 0, 0, 0), (.aload_n 0, 11, 0, 0, 0, 0), (.getfield 79, 14, 0, 11, 8, 271), x_0, x_0, (.arraylength, 15, 0, 0, 0, 0), (.if_icmp .ge 13, 18, 28, 0, 0, 0), x_0, x_0, (.aload_n 0, 19, 0, 0, 0, 0), (.getfield 79, 22, 0, 11, 8, 271), x_0, x_0, (.iload_n 1, 23, 0, 0, 0, 0), (.dup2, 24, 0, 0, 0, 0), (.iaload, 25, 0, 0, 0, 0), (.iconst 1, 26, 0, 0, 0, 0), (.iadd, 27, 0, 0, 0, 0), (.iastore, 28, 0, 0, 0, 0), (.bipush (-3), 30, 0, 0, 0, 0), x_0, (.ireturn, 31, 0, 0, 0, 0)])
def mX8_renewed : XM := (yX8_renewed, cX8_renewed, 4, (some (.int)), [(.aload_n 1, 1, 0, 0, 0, 0), (.ifnull 11, 4, 12, 0, 0, 0), x_0, x_0, (.iload_n 2, 5, 0, 0, 0, 0), (.aload_n 1, 6, 0, 0, 0, 0), (.invokevirtual 316, 9, 25, 0, 2, 323), x_0, x_0, (.if_icmp .le 5, 12, 14, 0, 0, 0), x_0, x_0, (.iconst (-1), 13, 0, 0, 0, 0), (.ireturn, 14, 0, 0, 0, 0), (.iload_n 2, 15, 0, 0, 0, 0), (.ifCond .ge 9, 18, 24, 0, 0, 0), x_0, x_0, (.aload_n 0, 19, 0, 0, 0, 0), (.iconst 5, 20, 0, 0, 0, 0), (.invokevirtual 133, 23, 128, 1, 8, 327), x_0, x_0, (.ireturn, 24, 0, 0, 0, 0), (.aload_n 1, 25, 0, 0, 0, 0), (.iload_n 2, 26, 0, 0, 0, 0), (.iload_n 3, 27, 0, 0, 0, 0), (.invokevirtual 319, 30, 29, 2, 2, 331), x_0, x_0, (.iload_n 2, 31, 0, 0, 0, 0), (.ireturn, 32, 0, 0, 0, 0)])
def mX8_refuseLine : XM := (yX8_refuseLine, cX8_refuseLine, 2, (some (.int)), [(.aload_n 1, 1, 0, 0, 0, 0), (.ifnonnull 5, 4, 6, 0, 0, 0), x_0, x_0, (.iconst (-1), 5, 0, 0, 0, 0), (.ireturn, 6, 0, 0, 0, 0), (.aload_n 1, 7, 0, 0, 0, 0), (.invokevirtual 136, 10, 27, 0, 2, 353), x_0, x_0, (.ifCond .eq 11, 13, 21, 0, 0, 0), x_0, x_0, (.aload_n 0, 14, 0, 0, 0, 0), (.iconst 1, 15, 0, 0, 0, 0), (.invokevirtual 133, 18, 128, 1, 8, 327), x_0, x_0, (.goto 4, 21, 22, 0, 0, 0), x_0, x_0, (.iconst 0, 22, 0, 0, 0, 0), (.ireturn, 23, 0, 0, 0, 0)])
def mX8_refusePlace : XM := (yX8_refusePlace, cX8_refusePlace, 4, (some (.int)), [(.aload_n 0, 1, 0, 0, 0, 0), (.aload_n 1, 2, 0, 0, 0, 0), (.invokevirtual 126, 5, 130, 1, 8, 349), x_0, x_0, (.istore_n 3, 6, 0, 0, 0, 0), (.aload_n 1, 7, 0, 0, 0, 0), (.ifnull 7, 10, 14, 0, 0, 0), x_0, x_0, (.iload_n 3, 11, 0, 0, 0, 0), (.ifCond .eq 5, 14, 16, 0, 0, 0), x_0, x_0, (.iload_n 3, 15, 0, 0, 0, 0), (.ireturn, 16, 0, 0, 0, 0), (.aload_n 1, 17, 0, 0, 0, 0), (.iload_n 2, 18, 0, 0, 0, 0), (.invokevirtual 322, 21, 30, 1, 2, 357), x_0, x_0, (.ifCond .eq 7, 24, 28, 0, 0, 0), x_0, x_0, (.iconst 0, 25, 0, 0, 0, 0), (.goto 8, 28, 33, 0, 0, 0), x_0, x_0, (.aload_n 0, 29, 0, 0, 0, 0), (.iconst 2, 30, 0, 0, 0, 0), (.invokevirtual 133, 33, 128, 1, 8, 327), x_0, x_0, (.ireturn, 34, 0, 0, 0, 0)])
def mX8_refuseTurns : XM := (yX8_refuseTurns, cX8_refuseTurns, 3, (some (.int)), [(.aload_n 0, 1, 0, 0, 0, 0), (.aload_n 1, 2, 0, 0, 0, 0), (.invokevirtual 126, 5, 130, 1, 8, 349), x_0, x_0, (.istore_n 2, 6, 0, 0, 0, 0), (.aload_n 1, 7, 0, 0, 0, 0), (.ifnull 7, 10, 14, 0, 0, 0), x_0, x_0, (.iload_n 2, 11, 0, 0, 0, 0), (.ifCond .eq 5, 14, 16, 0, 0, 0), x_0, x_0, (.iload_n 2, 15, 0, 0, 0, 0), (.ireturn, 16, 0, 0, 0, 0), (.aload_n 1, 17, 0, 0, 0, 0), (.invokevirtual 148, 20, 26, 0, 2, 402), x_0, x_0, (.invokestatic 244, 23, 125, 1, 8, 676), x_0, x_0, (.ifCond .eq 9, 26, 32, 0, 0, 0), x_0, x_0, (.aload_n 0, 27, 0, 0, 0, 0), (.iconst 5, 28, 0, 0, 0, 0), (.invokevirtual 133, 31, 128, 1, 8, 327), x_0, x_0, (.ireturn, 32, 0, 0, 0, 0), (.aload_n 1, 33, 0, 0, 0, 0), (.bipush (-6), 35, 0, 0, 0, 0), x_0, (.bipush 6, 37, 0, 0, 0, 0), x_0, (.invokevirtual 325, 40, 36, 2, 2, 746), x_0, x_0, (.ifCond .eq 7, 43, 47, 0, 0, 0), x_0, x_0, (.iconst 0, 44, 0, 0, 0, 0), (.goto 8, 47, 52, 0, 0, 0), x_0, x_0, (.aload_n 0, 48, 0, 0, 0, 0), (.iconst 3, 49, 0, 0, 0, 0), (.invokevirtual 133, 52, 128, 1, 8, 327), x_0, x_0, (.ireturn, 53, 0, 0, 0, 0)])
def mX8_refuseNotes : XM := (yX8_refuseNotes, cX8_refuseNotes, 3, (some (.int)), [(.aload_n 0, 1, 0, 0, 0, 0), (.aload_n 1, 2, 0, 0, 0, 0), (.invokevirtual 126, 5, 130, 1, 8, 349), x_0, x_0, (.istore_n 2, 6, 0, 0, 0, 0), (.aload_n 1, 7, 0, 0, 0, 0), (.ifnull 7, 10, 14, 0, 0, 0), x_0, x_0, (.iload_n 2, 11, 0, 0, 0, 0), (.ifCond .eq 5, 14, 16, 0, 0, 0), x_0, x_0, (.iload_n 2, 15, 0, 0, 0, 0), (.ireturn, 16, 0, 0, 0, 0), (.aload_n 1, 17, 0, 0, 0, 0), (.invokevirtual 148, 20, 26, 0, 2, 402), x_0, x_0, (.bipush 20, 22, 0, 0, 0, 0), x_0, (.if_icmp .le 9, 25, 31, 0, 0, 0), x_0, x_0, (.aload_n 0, 26, 0, 0, 0, 0), (.iconst 5, 27, 0, 0, 0, 0), (.invokevirtual 133, 30, 128, 1, 8, 327), x_0, x_0, (.ireturn, 31, 0, 0, 0, 0), (.aload_n 1, 32, 0, 0, 0, 0), (.iconst 0, 33, 0, 0, 0, 0), (.ldc_w 330, 36, 2147483647, 0, 0, 786), x_0, x_0, (.invokevirtual 325, 39, 36, 2, 2, 746), x_0, x_0, (.ifCond .eq 7, 42, 46, 0, 0, 0), x_0, x_0, (.iconst 0, 43, 0, 0, 0, 0), (.goto 8, 46, 51, 0, 0, 0), x_0, x_0, (.aload_n 0, 47, 0, 0, 0, 0), (.iconst 3, 48, 0, 0, 0, 0), (.invokevirtual 133, 51, 128, 1, 8, 327), x_0, x_0, (.ireturn, 52, 0, 0, 0, 0)])
def mX8_gainIn : XM := (yX8_gainIn, cX8_gainIn, 3, (some (.int)), [(.aload_n 0, 1, 0, 0, 0, 0), (.getfield 39, 4, 0, 5, 8, 265), x_0, x_0, (.aload_n 0, 5, 0, 0, 0, 0), (.getfield 46, 8, 0, 6, 8, 266), x_0, x_0, (.invokevirtual 191, 11, 45, 0, 3, 532), x_0, x_0, (.aload_n 1, 12, 0, 0, 0, 0), (.aload_n 0, 13, 0, 0, 0, 0), (.getfield 46, 16, 0, 6, 8, 266), x_0, x_0, (.invokevirtual 178, 19, 44, 0, 3, 494), x_0, x_0, (.iload_n 2, 20, 0, 0, 0, 0), (.iadd, 21, 0, 0, 0, 0), (.invokevirtual 269, 24, 73, 3, 6, 536), x_0, x_0, (.ireturn, 25, 0, 0, 0, 0)])
def mX8_timesOver : XM := (yX8_timesOver, cX8_timesOver, 3, (some (.int)), [(.aload_n 0, 1, 0, 0, 0, 0), (.getfield 39, 4, 0, 5, 8, 265), x_0, x_0, (.aload_n 0, 5, 0, 0, 0, 0), (.getfield 46, 8, 0, 6, 8, 266), x_0, x_0, (.invokevirtual 191, 11, 45, 0, 3, 532), x_0, x_0, (.aload_n 1, 12, 0, 0, 0, 0), (.iload_n 2, 13, 0, 0, 0, 0), (.invokevirtual 194, 16, 19, 1, 1, 498), x_0, x_0, (.invokevirtual 331, 19, 72, 2, 6, 666), x_0, x_0, (.ireturn, 20, 0, 0, 0, 0)])
def mX8_overFor : XM := (yX8_overFor, cX8_overFor, 4, (some (.int)), [(.iconst 0, 1, 0, 0, 0, 0), (.istore_n 3, 2, 0, 0, 0, 0), (.iload_n 3, 3, 0, 0, 0, 0), (.bipush 100, 5, 0, 0, 0, 0), x_0, (.if_icmp .ge 33, 8, 38, 0, 0, 0), x_0, x_0, (.aload_n 0, 9, 0, 0, 0, 0), (.getfield 39, 12, 0, 5, 8, 265), x_0, x_0, (.iload_n 2, 13, 0, 0, 0, 0), (.aload_n 1, 14, 0, 0, 0, 0), (.aload_n 0, 15, 0, 0, 0, 0), (.getfield 46, 18, 0, 6, 8, 266), x_0, x_0, (.invokevirtual 178, 21, 44, 0, 3, 494), x_0, x_0, (.iload_n 3, 22, 0, 0, 0, 0), (.iadd, 23, 0, 0, 0, 0), (.invokevirtual 194, 26, 19, 1, 1, 498), x_0, x_0, (.invokevirtual 331, 29, 72, 2, 6, 666), x_0, x_0, (.ifCond .le 9, 32, 38, 0, 0, 0), x_0, x_0, (.iinc 3 1, 35, 0, 0, 0, 0), x_0, x_0, (.goto (-33), 38, 2, 0, 0, 0), x_0, x_0, (.iload_n 3, 39, 0, 0, 0, 0), (.ireturn, 40, 0, 0, 0, 0)])
def mX8_guessed : XM := (yX8_guessed, cX8_guessed, 13, (some (.int)), [(.aload_n 0, 1, 0, 0, 0, 0), (.iload_n 1, 2, 0, 0, 0, 0), (.invokevirtual 166, 5, 127, 1, 8, 482), x_0, x_0, (.astore 4, 7, 0, 0, 0, 0), x_0, (.aload_n 0, 8, 0, 0, 0, 0), (.getfield 9, 11, 0, 0, 8, 260), x_0, x_0, (.iload_n 2, 12, 0, 0, 0, 0), (.invokestatic 106, 15, 126, 2, 8, 316), x_0, x_0, (.astore 5, 17, 0, 0, 0, 0), x_0, (.aload 4, 19, 0, 0, 0, 0), x_0, (.ifnull 8, 22, 27, 0, 0, 0), x_0, x_0, (.aload 5, 24, 0, 0, 0, 0), x_0, (.ifnonnull 5, 27, 29, 0, 0, 0), x_0, x_0, (.iconst (-1), 28, 0, 0, 0, 0), (.ireturn, 29, 0, 0, 0, 0), (.aload_n 0, 30, 0, 0, 0, 0), (.aload 5, 32, 0, 0, 0, 0), x_0, (.invokevirtual 280, 35, 133, 1, 8, 782), x_0, x_0, (.istore 6, 37, 0, 0, 0, 0), x_0, (.iload 6, 39, 0, 0, 0, 0), x_0, (.ifCond .eq 6, 42, 45, 0, 0, 0), x_0, x_0, (.iload 6, 44, 0, 0, 0, 0), x_0, (.ireturn, 45, 0, 0, 0, 0), (.aload 4, 47, 0, 0, 0, 0), x_0, (.aload_n 0, 48, 0, 0, 0, 0), (.getfield 46, 51, 0, 6, 8, 266), x_0, x_0, (.invokevirtual 178, 54, 44, 0, 3, 494), x_0, x_0, (.invokevirtual 194, 57, 19, 1, 1, 498), x_0, x_0, (.istore 7, 59, 0, 0, 0, 0), x_0, (.iload_n 3, 60, 0, 0, 0, 0), (.iconst 1, 61, 0, 0, 0, 0), (.if_icmp .ne 8, 64, 69, 0, 0, 0), x_0, x_0, (.bipush 24, 66, 0, 0, 0, 0), x_0, (.goto 14, 69, 80, 0, 0, 0), x_0, x_0, (.iload_n 3, 70, 0, 0, 0, 0), (.ifCond .ne 8, 73, 78, 0, 0, 0), x_0, x_0, (.bipush 6, 75, 0, 0, 0, 0), x_0, (.goto 5, 78, 80, 0, 0, 0), x_0, x_0, (.bipush 6, 80, 0, 0, 0, 0), x_0, (.istore 8, 82, 0, 0, 0, 0), x_0, (.iconst 0, 83, 0, 0, 0, 0), (.istore 9, 85, 0, 0, 0, 0), x_0, (.iconst 0, 86, 0, 0, 0, 0), (.istore 10, 88, 0, 0, 0, 0), x_0, (.iload 10, 90, 0, 0, 0, 0), x_0, (.iload 8, 92, 0, 0, 0, 0), x_0, (.if_icmp .ge 110, 95, 202, 0, 0, 0), x_0, x_0, (.iload_n 3, 96, 0, 0, 0, 0), (.ifCond .ne 8, 99, 104, 0, 0, 0), x_0, x_0, (.iload 10, 101, 0, 0, 0, 0), x_0, (.goto 8, 104, 109, 0, 0, 0), x_0, x_0, (.aload 4, 106, 0, 0, 0, 0), x_0, (.invokevirtual 334, 109, 14, 0, 1, 490), x_0, x_0, (.istore 11, 111, 0, 0, 0, 0), x_0, (.iload_n 3, 112, 0, 0, 0, 0), (.iconst 2, 113, 0, 0, 0, 0), (.if_icmp .ne 11, 116, 124, 0, 0, 0), x_0, x_0, (.iload 10, 118, 0, 0, 0, 0), x_0, (.bipush (-2), 120, 0, 0, 0, 0), x_0, (.iadd, 121, 0, 0, 0, 0), (.goto 8, 124, 129, 0, 0, 0), x_0, x_0, (.aload 4, 126, 0, 0, 0, 0), x_0, (.invokevirtual 337, 129, 15, 0, 1, 512), x_0, x_0, (.istore 12, 131, 0, 0, 0, 0), x_0, (.aload_n 0, 132, 0, 0, 0, 0), (.getfield 32, 135, 0, 4, 8, 264), x_0, x_0, (.iload 11, 137, 0, 0, 0, 0), x_0, (.iconst 0, 138, 0, 0, 0, 0), (.iload 12, 140, 0, 0, 0, 0), x_0, (.aload 4, 142, 0, 0, 0, 0), x_0, (.invokevirtual 340, 145, 16, 0, 1, 516), x_0, x_0, (.invokevirtual 343, 148, 12, 4, 1, 787), x_0, x_0, (.aload_n 0, 149, 0, 0, 0, 0), (.getfield 32, 152, 0, 4, 8, 264), x_0, x_0, (.iload_n 3, 153, 0, 0, 0, 0), (.iconst 1, 154, 0, 0, 0, 0), (.if_icmp .ne 8, 157, 162, 0, 0, 0), x_0, x_0, (.iload 10, 159, 0, 0, 0, 0), x_0, (.goto 5, 162, 164, 0, 0, 0), x_0, x_0, (.iload 7, 164, 0, 0, 0, 0), x_0, (.aload_n 0, 165, 0, 0, 0, 0), (.getfield 46, 168, 0, 6, 8, 266), x_0, x_0, (.invokevirtual 178, 171, 44, 0, 3, 494), x_0, x_0, (.invokevirtual 346, 174, 13, 2, 1, 788), x_0, x_0, (.iload 9, 176, 0, 0, 0, 0), x_0, (.aload_n 0, 177, 0, 0, 0, 0), (.aload 5, 179, 0, 0, 0, 0), x_0, (.invokevirtual 349, 182, 138, 1, 8, 792), x_0, x_0, (.ifCond .eq 10, 185, 192, 0, 0, 0), x_0, x_0, (.iconst 1, 186, 0, 0, 0, 0), (.iload 10, 188, 0, 0, 0, 0), x_0, (.ishl, 189, 0, 0, 0, 0), (.goto 4, 192, 193, 0, 0, 0), x_0, x_0, (.iconst 0, 193, 0, 0, 0, 0), (.ior, 194, 0, 0, 0, 0), (.istore 9, 196, 0, 0, 0, 0), x_0, (.iinc 10 1, 199, 0, 0, 0, 0), x_0, x_0, (.goto (-111), 202, 88, 0, 0, 0), x_0, x_0, (.iload 9, 204, 0, 0, 0, 0), x_0, (.ireturn, 205, 0, 0, 0, 0)])
def mX8_guessFits : XM := (yX8_guessFits, cX8_guessFits, 3, (some (.boolean)), [(.iconst 0, 1, 0, 0, 0, 0), (.istore_n 2, 2, 0, 0, 0, 0), (.iload_n 2, 3, 0, 0, 0, 0), (.aload_n 1, 4, 0, 0, 0, 0), (.invokevirtual 148, 7, 26, 0, 2, 402), x_0, x_0, (.if_icmp .ge 28, 10, 35, 0, 0, 0), x_0, x_0, (.aload_n 0, 11, 0, 0, 0, 0), (.aload_n 0, 12, 0, 0, 0, 0), (.getfield 32, 15, 0, 4, 8, 264), x_0, x_0, (.iload_n 2, 16, 0, 0, 0, 0), (.invokevirtual 235, 19, 134, 2, 8, 528), x_0, x_0, (.aload_n 1, 20, 0, 0, 0, 0), (.iload_n 2, 21, 0, 0, 0, 0), (.invokevirtual 118, 24, 32, 1, 2, 361), x_0, x_0, (.if_icmp .eq 5, 27, 29, 0, 0, 0), x_0, x_0, (.iconst 0, 28, 0, 0, 0, 0), (.ireturn, 29, 0, 0, 0, 0), (.iinc 2 1, 32, 0, 0, 0, 0), x_0, x_0, (.goto (-30), 35, 2, 0, 0, 0), x_0, x_0, (.iconst 1, 36, 0, 0, 0, 0), (.ireturn, 37, 0, 0, 0, 0)])
def mX8_passMoment : XM := (yX8_passMoment, cX8_passMoment, 3, (some (.int)), [(.iconst 0, 1, 0, 0, 0, 0), (.istore_n 1, 2, 0, 0, 0, 0), (.iconst 0, 3, 0, 0, 0, 0), (.istore_n 2, 4, 0, 0, 0, 0), (.iload_n 2, 5, 0, 0, 0, 0), (.aload_n 0, 6, 0, 0, 0, 0), (.getfield 83, 9, 0, 12, 8, 272), x_0, x_0, (.if_icmp .ge 32, 12, 41, 0, 0, 0), x_0, x_0, (.iload_n 2, 13, 0, 0, 0, 0), (.aload_n 0, 14, 0, 0, 0, 0), (.getfield 27, 17, 0, 3, 8, 263), x_0, x_0, (.arraylength, 18, 0, 0, 0, 0), (.if_icmp .ge 23, 21, 41, 0, 0, 0), x_0, x_0, (.iload_n 1, 22, 0, 0, 0, 0), (.aload_n 0, 23, 0, 0, 0, 0), (.aload_n 0, 24, 0, 0, 0, 0), (.getfield 27, 27, 0, 3, 8, 263), x_0, x_0, (.iload_n 2, 28, 0, 0, 0, 0), (.aaload, 29, 0, 0, 0, 0), (.iconst 0, 30, 0, 0, 0, 0), (.invokevirtual 235, 33, 134, 2, 8, 528), x_0, x_0, (.iadd, 34, 0, 0, 0, 0), (.istore_n 1, 35, 0, 0, 0, 0), (.iinc 2 1, 38, 0, 0, 0, 0), x_0, x_0, (.goto (-34), 41, 4, 0, 0, 0), x_0, x_0, (.aload_n 0, 42, 0, 0, 0, 0), (.getfield 46, 45, 0, 6, 8, 266), x_0, x_0, (.invokevirtual 353, 48, 48, 0, 3, 582), x_0, x_0, (.iload_n 1, 49, 0, 0, 0, 0), (.ireturn, 50, 0, 0, 0, 0)])
def mX8_bySleep : XM := (yX8_bySleep, cX8_bySleep, 10, (some (.int)), [(.aload_n 0, 1, 0, 0, 0, 0), (.iload_n 1, 2, 0, 0, 0, 0), (.invokevirtual 166, 5, 127, 1, 8, 482), x_0, x_0, (.astore 5, 7, 0, 0, 0, 0), x_0, (.aload_n 0, 8, 0, 0, 0, 0), (.getfield 9, 11, 0, 0, 8, 260), x_0, x_0, (.iload_n 2, 12, 0, 0, 0, 0), (.invokestatic 106, 15, 126, 2, 8, 316), x_0, x_0, (.astore 6, 17, 0, 0, 0, 0), x_0, (.aload 5, 19, 0, 0, 0, 0), x_0, (.ifnull 18, 22, 37, 0, 0, 0), x_0, x_0, (.aload 6, 24, 0, 0, 0, 0), x_0, (.ifnull 13, 27, 37, 0, 0, 0), x_0, x_0, (.iload_n 3, 28, 0, 0, 0, 0), (.ifCond .lt 9, 31, 37, 0, 0, 0), x_0, x_0, (.iload_n 3, 32, 0, 0, 0, 0), (.bipush 12, 34, 0, 0, 0, 0), x_0, (.if_icmp .le 5, 37, 39, 0, 0, 0), x_0, x_0, (.iconst (-1), 38, 0, 0, 0, 0), (.ireturn, 39, 0, 0, 0, 0), (.aload_n 0, 40, 0, 0, 0, 0), (.aload 6, 42, 0, 0, 0, 0), x_0, (.invokevirtual 263, 45, 132, 1, 8, 742), x_0, x_0, (.istore 7, 47, 0, 0, 0, 0), x_0, (.iload 7, 49, 0, 0, 0, 0), x_0, (.ifCond .eq 6, 52, 55, 0, 0, 0), x_0, x_0, (.iload 7, 54, 0, 0, 0, 0), x_0, (.ireturn, 55, 0, 0, 0, 0), (.aload_n 0, 56, 0, 0, 0, 0), (.getfield 57, 59, 0, 8, 8, 268), x_0, x_0, (.aload 5, 61, 0, 0, 0, 0), x_0, (.aload_n 0, 62, 0, 0, 0, 0), (.getfield 39, 65, 0, 5, 8, 265), x_0, x_0, (.aload_n 0, 66, 0, 0, 0, 0), (.getfield 46, 69, 0, 6, 8, 266), x_0, x_0, (.invokevirtual 178, 72, 44, 0, 3, 494), x_0, x_0, (.aload 6, 74, 0, 0, 0, 0), x_0, (.invokevirtual 148, 77, 26, 0, 2, 402), x_0, x_0, (.invokevirtual 247, 80, 77, 4, 7, 679), x_0, x_0, (.aload_n 0, 81, 0, 0, 0, 0), (.getfield 75, 84, 0, 10, 8, 270), x_0, x_0, (.aload_n 0, 85, 0, 0, 0, 0), (.getfield 46, 88, 0, 6, 8, 266), x_0, x_0, (.invokevirtual 191, 91, 45, 0, 3, 532), x_0, x_0, (.aload 6, 93, 0, 0, 0, 0), x_0, (.iload_n 3, 94, 0, 0, 0, 0), (.iload 4, 96, 0, 0, 0, 0), x_0, (.invokevirtual 356, 99, 65, 4, 5, 836), x_0, x_0, (.lstore 8, 101, 0, 0, 0, 0), x_0, (.aload_n 0, 102, 0, 0, 0, 0), (.lload 8, 104, 0, 0, 0, 0), x_0, (.aload_n 0, 105, 0, 0, 0, 0), (.getfield 75, 108, 0, 10, 8, 270), x_0, x_0, (.invokevirtual 360, 111, 64, 0, 5, 860), x_0, x_0, (.invokevirtual 363, 114, 141, 2, 8, 864), x_0, x_0, (.iconst 1, 115, 0, 0, 0, 0), (.ireturn, 116, 0, 0, 0, 0)])
def mX8_tellChances : XM := (yX8_tellChances, cX8_tellChances, 7, none, [(.lload_n 3, 1, 0, 0, 0, 0), (.lload_n 1, 2, 0, 0, 0, 0), (.invokestatic 367, 5, 142, 2, 8, 868), x_0, x_0, (.lstore 5, 7, 0, 0, 0, 0), x_0, (.lload 5, 9, 0, 0, 0, 0), x_0, (.lconst 0, 10, 0, 0, 0, 0), (.lcmp, 11, 0, 0, 0, 0), (.ifCond .le 19, 14, 30, 0, 0, 0), x_0, x_0, (.aload_n 0, 15, 0, 0, 0, 0), (.lload_n 1, 16, 0, 0, 0, 0), (.lload 5, 18, 0, 0, 0, 0), x_0, (.ldiv, 19, 0, 0, 0, 0), (.putfield 93, 22, 0, 15, 8, 275), x_0, x_0, (.aload_n 0, 23, 0, 0, 0, 0), (.lload_n 3, 24, 0, 0, 0, 0), (.lload 5, 26, 0, 0, 0, 0), x_0, (.ldiv, 27, 0, 0, 0, 0), (.putfield 97, 30, 0, 16, 8, 276), x_0, x_0, (.return_, 31, 0, 0, 0, 0)])
def mX8_greatestCommon : XM := (yX8_greatestCommon, cX8_greatestCommon, 7, (some (.long)), [(.iconst 0, 1, 0, 0, 0, 0), (.istore 4, 3, 0, 0, 0, 0), x_0, (.iload 4, 5, 0, 0, 0, 0), x_0, (.bipush 100, 7, 0, 0, 0, 0), x_0, (.if_icmp .ge 25, 10, 32, 0, 0, 0), x_0, x_0, (.lload_n 2, 11, 0, 0, 0, 0), (.lconst 0, 12, 0, 0, 0, 0), (.lcmp, 13, 0, 0, 0, 0), (.ifCond .eq 19, 16, 32, 0, 0, 0), x_0, x_0, (.lload_n 0, 17, 0, 0, 0, 0), (.lload_n 2, 18, 0, 0, 0, 0), (.lrem, 19, 0, 0, 0, 0), (.lstore 5, 21, 0, 0, 0, 0), x_0, (.lload_n 2, 22, 0, 0, 0, 0), (.lstore_n 0, 23, 0, 0, 0, 0), (.lload 5, 25, 0, 0, 0, 0), x_0, (.lstore_n 2, 26, 0, 0, 0, 0), (.iinc 4 1, 29, 0, 0, 0, 0), x_0, x_0, (.goto (-26), 32, 3, 0, 0, 0), x_0, x_0, (.lload_n 0, 33, 0, 0, 0, 0), (.lreturn, 34, 0, 0, 0, 0)])
def mX8_factOf : XM := (yX8_factOf, cX8_factOf, 3, (some (.int)), [(.iload_n 2, 1, 0, 0, 0, 0), (.tableswitch 74 0 4 #[35, 40, 52, 57, 62], 36, 0, 0, 0, 0), x_0, x_0, x_0, x_0, x_0, x_0, x_0, x_0, x_0, x_0, x_0, x_0, x_0, x_0, x_0, x_0, x_0, x_0, x_0, x_0, x_0, x_0, x_0, x_0, x_0, x_0, x_0, x_0, x_0, x_0, x_0, x_0, x_0, x_0, (.aload_n 1, 37, 0, 0, 0, 0), (.invokevirtual 334, 40, 14, 0, 1, 490), x_0, x_0, (.ireturn, 41, 0, 0, 0, 0), (.aload_n 1, 42, 0, 0, 0, 0), (.aload_n 0, 43, 0, 0, 0, 0), (.getfield 46, 46, 0, 6, 8, 266), x_0, x_0, (.invokevirtual 178, 49, 44, 0, 3, 494), x_0, x_0, (.invokevirtual 194, 52, 19, 1, 1, 498), x_0, x_0, (.ireturn, 53, 0, 0, 0, 0), (.aload_n 1, 54, 0, 0, 0, 0), (.invokevirtual 337, 57, 15, 0, 1, 512), x_0, x_0, (.ireturn, 58, 0, 0, 0, 0), (.aload_n 1, 59, 0, 0, 0, 0), (.invokevirtual 340, 62, 16, 0, 1, 516), x_0, x_0, (.ireturn, 63, 0, 0, 0, 0), (.aload_n 1, 64, 0, 0, 0, 0), (.aload_n 0, 65, 0, 0, 0, 0), (.getfield 46, 68, 0, 6, 8, 266), x_0, x_0, (.invokevirtual 178, 71, 44, 0, 3, 494), x_0, x_0, (.invokevirtual 232, 74, 20, 1, 1, 520), x_0, x_0, (.ireturn, 75, 0, 0, 0, 0), (.aload_n 0, 76, 0, 0, 0, 0), (.aload_n 1, 77, 0, 0, 0, 0), (.iconst 0, 78, 0, 0, 0, 0), (.invokevirtual 235, 81, 134, 2, 8, 528), x_0, x_0, (.ireturn, 82, 0, 0, 0, 0)])
def mX8_counted : XM := (yX8_counted, cX8_counted, 2, (some (.int)), [(.iload_n 1, 1, 0, 0, 0, 0), (.tableswitch 125 0 9 #[55, 60, 68, 76, 84, 92, 98, 104, 112, 120], 56, 0, 0, 0, 0), x_0, x_0, x_0, x_0, x_0, x_0, x_0, x_0, x_0, x_0, x_0, x_0, x_0, x_0, x_0, x_0, x_0, x_0, x_0, x_0, x_0, x_0, x_0, x_0, x_0, x_0, x_0, x_0, x_0, x_0, x_0, x_0, x_0, x_0, x_0, x_0, x_0, x_0, x_0, x_0, x_0, x_0, x_0, x_0, x_0, x_0, x_0, x_0, x_0, x_0, x_0, x_0, x_0, x_0, (.aload_n 0, 57, 0, 0, 0, 0), (.getfield 83, 60, 0, 12, 8, 272), x_0, x_0, (.ireturn, 61, 0, 0, 0, 0), (.aload_n 0, 62, 0, 0, 0, 0), (.getfield 46, 65, 0, 6, 8, 266), x_0, x_0, (.invokevirtual 178, 68, 44, 0, 3, 494), x_0, x_0, (.ireturn, 69, 0, 0, 0, 0), (.aload_n 0, 70, 0, 0, 0, 0), (.getfield 46, 73, 0, 6, 8, 266), x_0, x_0, (.invokevirtual 215, 76, 43, 0, 3, 611), x_0, x_0, (.ireturn, 77, 0, 0, 0, 0), (.aload_n 0, 78, 0, 0, 0, 0), (.getfield 46, 81, 0, 6, 8, 266), x_0, x_0, (.invokevirtual 191, 84, 45, 0, 3, 532), x_0, x_0, (.ireturn, 85, 0, 0, 0, 0), (.aload_n 0, 86, 0, 0, 0, 0), (.getfield 39, 89, 0, 5, 8, 265), x_0, x_0, (.invokevirtual 371, 92, 71, 0, 6, 904), x_0, x_0, (.ireturn, 93, 0, 0, 0, 0), (.aload_n 0, 94, 0, 0, 0, 0), (.iconst 1, 95, 0, 0, 0, 0), (.invokevirtual 374, 98, 145, 1, 8, 908), x_0, x_0, (.ireturn, 99, 0, 0, 0, 0), (.aload_n 0, 100, 0, 0, 0, 0), (.iconst 3, 101, 0, 0, 0, 0), (.invokevirtual 374, 104, 145, 1, 8, 908), x_0, x_0, (.ireturn, 105, 0, 0, 0, 0), (.aload_n 0, 106, 0, 0, 0, 0), (.getfield 9, 109, 0, 0, 8, 260), x_0, x_0, (.invokestatic 377, 112, 146, 1, 8, 912), x_0, x_0, (.ireturn, 113, 0, 0, 0, 0), (.aload_n 0, 114, 0, 0, 0, 0), (.getfield 15, 117, 0, 1, 8, 261), x_0, x_0, (.invokestatic 377, 120, 146, 1, 8, 912), x_0, x_0, (.ireturn, 121, 0, 0, 0, 0), (.aload_n 0, 122, 0, 0, 0, 0), (.invokevirtual 381, 125, 147, 0, 8, 915), x_0, x_0, (.ireturn, 126, 0, 0, 0, 0), (.aload_n 0, 127, 0, 0, 0, 0), (.getfield 46, 130, 0, 6, 8, 266), x_0, x_0, (.invokevirtual 384, 133, 46, 0, 3, 919), x_0, x_0, (.ireturn, 134, 0, 0, 0, 0)])
def mX8_lightsOf : XM := (yX8_lightsOf, cX8_lightsOf, 4, (some (.int)), [(.iconst 0, 1, 0, 0, 0, 0), (.istore_n 2, 2, 0, 0, 0, 0), (.iconst 0, 3, 0, 0, 0, 0), (.istore_n 3, 4, 0, 0, 0, 0), (.iload_n 3, 5, 0, 0, 0, 0), (.aload_n 0, 6, 0, 0, 0, 0), (.getfield 83, 9, 0, 12, 8, 272), x_0, x_0, (.if_icmp .ge 39, 12, 48, 0, 0, 0), x_0, x_0, (.iload_n 3, 13, 0, 0, 0, 0), (.aload_n 0, 14, 0, 0, 0, 0), (.getfield 27, 17, 0, 3, 8, 263), x_0, x_0, (.arraylength, 18, 0, 0, 0, 0), (.if_icmp .ge 30, 21, 48, 0, 0, 0), x_0, x_0, (.iload_n 2, 22, 0, 0, 0, 0), (.aload_n 0, 23, 0, 0, 0, 0), (.getfield 27, 26, 0, 3, 8, 263), x_0, x_0, (.iload_n 3, 27, 0, 0, 0, 0), (.aaload, 28, 0, 0, 0, 0), (.iload_n 1, 29, 0, 0, 0, 0), (.invokevirtual 174, 32, 17, 1, 1, 551), x_0, x_0, (.ifCond .eq 7, 35, 39, 0, 0, 0), x_0, x_0, (.iconst 1, 36, 0, 0, 0, 0), (.goto 4, 39, 40, 0, 0, 0), x_0, x_0, (.iconst 0, 40, 0, 0, 0, 0), (.iadd, 41, 0, 0, 0, 0), (.istore_n 2, 42, 0, 0, 0, 0), (.iinc 3 1, 45, 0, 0, 0, 0), x_0, x_0, (.goto (-41), 48, 4, 0, 0, 0), x_0, x_0, (.iload_n 2, 49, 0, 0, 0, 0), (.ireturn, 50, 0, 0, 0, 0)])
def mX8_linesThere : XM := (yX8_linesThere, cX8_linesThere, 3, (some (.int)), [(.iconst 0, 1, 0, 0, 0, 0), (.istore_n 1, 2, 0, 0, 0, 0), (.iconst 0, 3, 0, 0, 0, 0), (.istore_n 2, 4, 0, 0, 0, 0), (.iload_n 2, 5, 0, 0, 0, 0), (.aload_n 0, 6, 0, 0, 0, 0), (.arraylength, 7, 0, 0, 0, 0), (.if_icmp .ge 26, 10, 33, 0, 0, 0), x_0, x_0, (.iload_n 1, 11, 0, 0, 0, 0), (.aload_n 0, 12, 0, 0, 0, 0), (.iload_n 2, 13, 0, 0, 0, 0), (.aaload, 14, 0, 0, 0, 0), (.invokevirtual 136, 17, 27, 0, 2, 353), x_0, x_0, (.ifCond .eq 7, 20, 24, 0, 0, 0), x_0, x_0, (.iconst 0, 21, 0, 0, 0, 0), (.goto 4, 24, 25, 0, 0, 0), x_0, x_0, (.iconst 1, 25, 0, 0, 0, 0), (.iadd, 26, 0, 0, 0, 0), (.istore_n 1, 27, 0, 0, 0, 0), (.iinc 2 1, 30, 0, 0, 0, 0), x_0, x_0, (.goto (-26), 33, 4, 0, 0, 0), x_0, x_0, (.iload_n 1, 34, 0, 0, 0, 0), (.ireturn, 35, 0, 0, 0, 0)])
def mX8_keptThere : XM := (yX8_keptThere, cX8_keptThere, 3, (some (.int)), [(.iconst 0, 1, 0, 0, 0, 0), (.istore_n 1, 2, 0, 0, 0, 0), (.iconst 0, 3, 0, 0, 0, 0), (.istore_n 2, 4, 0, 0, 0, 0), (.iload_n 2, 5, 0, 0, 0, 0), (.aload_n 0, 6, 0, 0, 0, 0), (.getfield 50, 9, 0, 7, 8, 267), x_0, x_0, (.arraylength, 10, 0, 0, 0, 0), (.if_icmp .ge 29, 13, 39, 0, 0, 0), x_0, x_0, (.iload_n 1, 14, 0, 0, 0, 0), (.aload_n 0, 15, 0, 0, 0, 0), (.getfield 50, 18, 0, 7, 8, 267), x_0, x_0, (.iload_n 2, 19, 0, 0, 0, 0), (.aaload, 20, 0, 0, 0, 0), (.invokevirtual 226, 23, 42, 0, 3, 635), x_0, x_0, (.ifCond .eq 7, 26, 30, 0, 0, 0), x_0, x_0, (.iconst 0, 27, 0, 0, 0, 0), (.goto 4, 30, 31, 0, 0, 0), x_0, x_0, (.iconst 1, 31, 0, 0, 0, 0), (.iadd, 32, 0, 0, 0, 0), (.istore_n 1, 33, 0, 0, 0, 0), (.iinc 2 1, 36, 0, 0, 0, 0), x_0, x_0, (.goto (-32), 39, 4, 0, 0, 0), x_0, x_0, (.iload_n 1, 40, 0, 0, 0, 0), (.ireturn, 41, 0, 0, 0, 0)])
def mX9_init : XM := (yX9_init, cX9_init, 2, none, [(.aload_n 0, 1, 0, 0, 0, 0), (.invokespecial 1, 4, 9998, 0, 0, 947), x_0, x_0, (.aload_n 0, 5, 0, 0, 0, 0), (.sipush 496, 8, 0, 0, 0, 0), x_0, x_0, (.newarray .int, 10, 0, 0, 0, 0), x_0, (.putfield 7, 13, 0, 0, 9, 948), x_0, x_0, (.aload_n 0, 14, 0, 0, 0, 0), (.iconst 5, 15, 0, 0, 0, 0), (.newarray .int, 17, 0, 0, 0, 0), x_0, (.putfield 13, 20, 0, 4, 9, 952), x_0, x_0, (.aload_n 0, 21, 0, 0, 0, 0), (.iconst 5, 22, 0, 0, 0, 0), (.newarray .int, 24, 0, 0, 0, 0), x_0, (.putfield 16, 27, 0, 5, 9, 953), x_0, x_0, (.aload_n 0, 28, 0, 0, 0, 0), (.iconst 5, 29, 0, 0, 0, 0), (.newarray .int, 31, 0, 0, 0, 0), x_0, (.putfield 19, 34, 0, 6, 9, 954), x_0, x_0, (.aload_n 0, 35, 0, 0, 0, 0), (.iconst 5, 36, 0, 0, 0, 0), (.newarray .int, 38, 0, 0, 0, 0), x_0, (.putfield 22, 41, 0, 7, 9, 955), x_0, x_0, (.aload_n 0, 42, 0, 0, 0, 0), (.bipush 6, 44, 0, 0, 0, 0), x_0, (.newarray .int, 46, 0, 0, 0, 0), x_0, (.dup, 47, 0, 0, 0, 0), (.iconst 0, 48, 0, 0, 0, 0), (.iconst (-1), 49, 0, 0, 0, 0), (.iastore, 50, 0, 0, 0, 0), (.dup, 51, 0, 0, 0, 0), (.iconst 1, 52, 0, 0, 0, 0), (.iconst (-1), 53, 0, 0, 0, 0), (.iastore, 54, 0, 0, 0, 0), (.dup, 55, 0, 0, 0, 0), (.iconst 2, 56, 0, 0, 0, 0), (.iconst (-1), 57, 0, 0, 0, 0), (.iastore, 58, 0, 0, 0, 0), (.dup, 59, 0, 0, 0, 0), (.iconst 3, 60, 0, 0, 0, 0), (.iconst (-1), 61, 0, 0, 0, 0), (.iastore, 62, 0, 0, 0, 0), (.dup, 63, 0, 0, 0, 0), (.iconst 4, 64, 0, 0, 0, 0), (.iconst (-1), 65, 0, 0, 0, 0), (.iastore, 66, 0, 0, 0, 0), (.dup, 67, 0, 0, 0, 0), (.iconst 5, 68, 0, 0, 0, 0), (.iconst (-1), 69, 0, 0, 0, 0), (.iastore, 70, 0, 0, 0, 0), (.putfield 25, 73, 0, 8, 9, 956), x_0, x_0, (.aload_n 0, 74, 0, 0, 0, 0), (.sipush 240, 77, 0, 0, 0, 0), x_0, x_0, (.newarray .int, 79, 0, 0, 0, 0), x_0, (.putfield 28, 82, 0, 9, 9, 957), x_0, x_0, (.aload_n 0, 83, 0, 0, 0, 0), (.iconst 4, 84, 0, 0, 0, 0), (.newarray .int, 86, 0, 0, 0, 0), x_0, (.dup, 87, 0, 0, 0, 0), (.iconst 0, 88, 0, 0, 0, 0), (.iconst (-1), 89, 0, 0, 0, 0), (.iastore, 90, 0, 0, 0, 0), (.dup, 91, 0, 0, 0, 0), (.iconst 1, 92, 0, 0, 0, 0), (.iconst (-1), 93, 0, 0, 0, 0), (.iastore, 94, 0, 0, 0, 0), (.dup, 95, 0, 0, 0, 0), (.iconst 2, 96, 0, 0, 0, 0), (.iconst (-1), 97, 0, 0, 0, 0), (.iastore, 98, 0, 0, 0, 0), (.dup, 99, 0, 0, 0, 0), (.iconst 3, 100, 0, 0, 0, 0), (.iconst (-1), 101, 0, 0, 0, 0), (.iastore, 102, 0, 0, 0, 0), (.putfield 31, 105, 0, 10, 9, 958), x_0, x_0, (.aload_n 0, 106, 0, 0, 0, 0), (.sipush 240, 109, 0, 0, 0, 0), x_0, x_0, (.newarray .int, 111, 0, 0, 0, 0), x_0, (.putfield 34, 114, 0, 11, 9, 959), x_0, x_0, (.aload_n 0, 115, 0, 0, 0, 0), (.lconst 1, 116, 0, 0, 0, 0), (.putfield 37, 119, 0, 14, 9, 962), x_0, x_0, (.aload_n 0, 120, 0, 0, 0, 0), (.bipush 6, 122, 0, 0, 0, 0), x_0, (.newarray .int, 124, 0, 0, 0, 0), x_0, (.putfield 41, 127, 0, 16, 9, 964), x_0, x_0, (.aload_n 0, 128, 0, 0, 0, 0), (.bipush 20, 130, 0, 0, 0, 0), x_0, (.newarray .int, 132, 0, 0, 0, 0), x_0, (.putfield 44, 135, 0, 22, 9, 970), x_0, x_0, (.aload_n 0, 136, 0, 0, 0, 0), (.sipush 216, 139, 0, 0, 0, 0), x_0, x_0, (.newarray .int, 141, 0, 0, 0, 0), x_0, (.putfield 47, 144, 0, 24, 9, 972), x_0, x_0, (.aload_n 0, 145, 0, 0, 0, 0), (.sipush 312, 148, 0, 0, 0, 0), x_0, x_0, (.newarray .int, 150, 0, 0, 0, 0), x_0, (.putfield 50, 153, 0, 25, 9, 973), x_0, x_0, (.aload_n 0, 154, 0, 0, 0, 0), (.sipush 984, 157, 0, 0, 0, 0), x_0, x_0, (.newarray .int, 159, 0, 0, 0, 0), x_0, (.putfield 53, 162, 0, 26, 9, 974), x_0, x_0, (.aload_n 0, 163, 0, 0, 0, 0), (.sipush 984, 166, 0, 0, 0, 0), x_0, x_0, (.newarray .int, 168, 0, 0, 0, 0), x_0, (.putfield 56, 171, 0, 27, 9, 975), x_0, x_0, (.aload_n 0, 172, 0, 0, 0, 0), (.iconst 5, 173, 0, 0, 0, 0), (.newarray .int, 175, 0, 0, 0, 0), x_0, (.putfield 59, 178, 0, 28, 9, 976), x_0, x_0, (.aload_n 0, 179, 0, 0, 0, 0), (.bipush 72, 181, 0, 0, 0, 0), x_0, (.newarray .int, 183, 0, 0, 0, 0), x_0, (.putfield 62, 186, 0, 29, 9, 977), x_0, x_0, (.aload_n 0, 187, 0, 0, 0, 0), (.bipush 72, 189, 0, 0, 0, 0), x_0, (.newarray .int, 191, 0, 0, 0, 0), x_0, (.putfield 65, 194, 0, 30, 9, 978), x_0, x_0, (.iconst 1, 195, 0, 0, 0, 0), (.istore_n 1, 196, 0, 0, 0, 0), (.iload_n 1, 197, 0, 0, 0, 0), (.iconst 4, 198, 0, 0, 0, 0), (.if_icmp .ge 21, 201, 219, 0, 0, 0), x_0, x_0, (.aload_n 0, 202, 0, 0, 0, 0), (.getfield 7, 205, 0, 0, 9, 948), x_0, x_0, (.bipush 124, 207, 0, 0, 0, 0), x_0, (.iload_n 1, 208, 0, 0, 0, 0), (.imul, 209, 0, 0, 0, 0), (.iconst 0, 210, 0, 0, 0, 0), (.iadd, 211, 0, 0, 0, 0), (.iconst (-1), 212, 0, 0, 0, 0), (.iastore, 213, 0, 0, 0, 0), (.iinc 1 1, 216, 0, 0, 0, 0), x_0, x_0, (.goto (-20), 219, 196, 0, 0, 0), x_0, x_0, (.return_, 220, 0, 0, 0, 0)])
def mX9_in : XM := (yX9_in, cX9_in, 6, (some (.boolean)), [(.lload_n 0, 1, 0, 0, 0, 0), (.lload_n 2, 2, 0, 0, 0, 0), (.lcmp, 3, 0, 0, 0, 0), (.ifCond .lt 14, 6, 17, 0, 0, 0), x_0, x_0, (.lload_n 0, 7, 0, 0, 0, 0), (.lload 4, 9, 0, 0, 0, 0), x_0, (.lcmp, 10, 0, 0, 0, 0), (.ifCond .gt 7, 13, 17, 0, 0, 0), x_0, x_0, (.iconst 1, 14, 0, 0, 0, 0), (.goto 4, 17, 18, 0, 0, 0), x_0, x_0, (.iconst 0, 18, 0, 0, 0, 0), (.ireturn, 19, 0, 0, 0, 0)])
def mX9_has : XM := (yX9_has, cX9_has, 2, (some (.boolean)), [(.iload_n 0, 1, 0, 0, 0, 0), (.iload_n 1, 2, 0, 0, 0, 0), (.ishr, 3, 0, 0, 0, 0), (.iconst 1, 4, 0, 0, 0, 0), (.iand, 5, 0, 0, 0, 0), (.iconst 1, 6, 0, 0, 0, 0), (.if_icmp .ne 7, 9, 13, 0, 0, 0), x_0, x_0, (.iconst 1, 10, 0, 0, 0, 0), (.goto 4, 13, 14, 0, 0, 0), x_0, x_0, (.iconst 0, 14, 0, 0, 0, 0), (.ireturn, 15, 0, 0, 0, 0)])
def mX9_find : XM := (yX9_find, cX9_find, 2, (some (.int)), [(.aload_n 0, 1, 0, 0, 0, 0), (.iload_n 1, 2, 0, 0, 0, 0), (.putfield 68, 5, 0, 15, 9, 963), x_0, x_0, (.aload_n 0, 6, 0, 0, 0, 0), (.getfield 41, 9, 0, 16, 9, 964), x_0, x_0, (.iload_n 1, 10, 0, 0, 0, 0), (.dup2, 11, 0, 0, 0, 0), (.iaload, 12, 0, 0, 0, 0), (.iconst 1, 13, 0, 0, 0, 0), (.iadd, 14, 0, 0, 0, 0), (.iastore, 15, 0, 0, 0, 0), (.bipush (-3), 17, 0, 0, 0, 0), x_0, (.ireturn, 18, 0, 0, 0, 0)])
def mX9_tell : XM := (yX9_tell, cX9_tell, 2, (some (.int)), [(.aload_n 0, 1, 0, 0, 0, 0), (.iload_n 1, 2, 0, 0, 0, 0), (.putfield 72, 5, 0, 12, 9, 960), x_0, x_0, (.iconst 1, 6, 0, 0, 0, 0), (.ireturn, 7, 0, 0, 0, 0)])
def mX9_isRow : XM := (yX9_isRow, cX9_isRow, 1, (some (.boolean)), [(.iload_n 0, 1, 0, 0, 0, 0), (.i2l, 2, 0, 0, 0, 0), (.lconst 0, 3, 0, 0, 0, 0), (.ldc2_w 75, 6, 5, 0, 0, 1055), x_0, x_0, (.invokestatic 77, 9, 149, 3, 9, 1056), x_0, x_0, (.ireturn, 10, 0, 0, 0, 0)])
def mX9_isText : XM := (yX9_isText, cX9_isText, 1, (some (.boolean)), [(.iload_n 0, 1, 0, 0, 0, 0), (.i2l, 2, 0, 0, 0, 0), (.lconst 0, 3, 0, 0, 0, 0), (.ldc2_w 81, 6, 3, 0, 0, 1106), x_0, x_0, (.invokestatic 77, 9, 149, 3, 9, 1056), x_0, x_0, (.ireturn, 10, 0, 0, 0, 0)])
def mX9_row : XM := (yX9_row, cX9_row, 3, (some (.int)), [(.iload_n 1, 1, 0, 0, 0, 0), (.invokestatic 83, 4, 153, 1, 9, 1052), x_0, x_0, (.ifCond .eq 9, 7, 13, 0, 0, 0), x_0, x_0, (.iload_n 2, 8, 0, 0, 0, 0), (.bipush 40, 10, 0, 0, 0, 0), x_0, (.if_icmp .le 5, 13, 15, 0, 0, 0), x_0, x_0, (.iconst (-1), 14, 0, 0, 0, 0), (.ireturn, 15, 0, 0, 0, 0), (.iload_n 2, 16, 0, 0, 0, 0), (.ifCond .ge 9, 19, 25, 0, 0, 0), x_0, x_0, (.aload_n 0, 20, 0, 0, 0, 0), (.iconst 5, 21, 0, 0, 0, 0), (.invokevirtual 87, 24, 151, 1, 9, 1059), x_0, x_0, (.ireturn, 25, 0, 0, 0, 0), (.aload_n 0, 26, 0, 0, 0, 0), (.iload_n 1, 27, 0, 0, 0, 0), (.iload_n 2, 28, 0, 0, 0, 0), (.invokevirtual 91, 31, 156, 2, 9, 1063), x_0, x_0, (.iload_n 2, 32, 0, 0, 0, 0), (.ireturn, 33, 0, 0, 0, 0)])
def mX9_makeRow : XM := (yX9_makeRow, cX9_makeRow, 4, none, [(.aload_n 0, 1, 0, 0, 0, 0), (.getfield 25, 4, 0, 8, 9, 956), x_0, x_0, (.iload_n 1, 5, 0, 0, 0, 0), (.iload_n 2, 6, 0, 0, 0, 0), (.iastore, 7, 0, 0, 0, 0), (.iconst 0, 8, 0, 0, 0, 0), (.istore_n 3, 9, 0, 0, 0, 0), (.iload_n 3, 10, 0, 0, 0, 0), (.bipush 40, 12, 0, 0, 0, 0), x_0, (.if_icmp .ge 21, 15, 33, 0, 0, 0), x_0, x_0, (.aload_n 0, 16, 0, 0, 0, 0), (.getfield 28, 19, 0, 9, 9, 957), x_0, x_0, (.bipush 40, 21, 0, 0, 0, 0), x_0, (.iload_n 1, 22, 0, 0, 0, 0), (.imul, 23, 0, 0, 0, 0), (.iload_n 3, 24, 0, 0, 0, 0), (.iadd, 25, 0, 0, 0, 0), (.iconst 0, 26, 0, 0, 0, 0), (.iastore, 27, 0, 0, 0, 0), (.iinc 3 1, 30, 0, 0, 0, 0), x_0, x_0, (.goto (-21), 33, 9, 0, 0, 0), x_0, x_0, (.return_, 34, 0, 0, 0, 0)])
def mX9_refused : XM := (yX9_refused, cX9_refused, 3, (some (.int)), [(.iload_n 1, 1, 0, 0, 0, 0), (.invokestatic 83, 4, 153, 1, 9, 1052), x_0, x_0, (.ifCond .ne 7, 7, 11, 0, 0, 0), x_0, x_0, (.iconst (-1), 8, 0, 0, 0, 0), (.goto 47, 11, 55, 0, 0, 0), x_0, x_0, (.aload_n 0, 12, 0, 0, 0, 0), (.getfield 25, 15, 0, 8, 9, 956), x_0, x_0, (.iload_n 1, 16, 0, 0, 0, 0), (.iaload, 17, 0, 0, 0, 0), (.ifCond .ge 11, 20, 28, 0, 0, 0), x_0, x_0, (.aload_n 0, 21, 0, 0, 0, 0), (.iconst 1, 22, 0, 0, 0, 0), (.invokevirtual 87, 25, 151, 1, 9, 1059), x_0, x_0, (.goto 30, 28, 55, 0, 0, 0), x_0, x_0, (.iload_n 2, 29, 0, 0, 0, 0), (.i2l, 30, 0, 0, 0, 0), (.lconst 0, 31, 0, 0, 0, 0), (.aload_n 0, 32, 0, 0, 0, 0), (.getfield 25, 35, 0, 8, 9, 956), x_0, x_0, (.iload_n 1, 36, 0, 0, 0, 0), (.iaload, 37, 0, 0, 0, 0), (.iconst 1, 38, 0, 0, 0, 0), (.isub, 39, 0, 0, 0, 0), (.i2l, 40, 0, 0, 0, 0), (.invokestatic 77, 43, 149, 3, 9, 1056), x_0, x_0, (.ifCond .eq 7, 46, 50, 0, 0, 0), x_0, x_0, (.iconst 0, 47, 0, 0, 0, 0), (.goto 8, 50, 55, 0, 0, 0), x_0, x_0, (.aload_n 0, 51, 0, 0, 0, 0), (.iconst 2, 52, 0, 0, 0, 0), (.invokevirtual 87, 55, 151, 1, 9, 1059), x_0, x_0, (.ireturn, 56, 0, 0, 0, 0)])
def mX9_lay : XM := (yX9_lay, cX9_lay, 6, (some (.int)), [(.aload_n 0, 1, 0, 0, 0, 0), (.iload_n 1, 2, 0, 0, 0, 0), (.iload_n 2, 3, 0, 0, 0, 0), (.invokevirtual 95, 6, 157, 2, 9, 1071), x_0, x_0, (.istore 4, 8, 0, 0, 0, 0), x_0, (.iload 4, 10, 0, 0, 0, 0), x_0, (.ifCond .eq 6, 13, 16, 0, 0, 0), x_0, x_0, (.iload 4, 15, 0, 0, 0, 0), x_0, (.ireturn, 16, 0, 0, 0, 0), (.aload_n 0, 17, 0, 0, 0, 0), (.getfield 28, 20, 0, 9, 9, 957), x_0, x_0, (.bipush 40, 22, 0, 0, 0, 0), x_0, (.iload_n 1, 23, 0, 0, 0, 0), (.imul, 24, 0, 0, 0, 0), (.iload_n 2, 25, 0, 0, 0, 0), (.iadd, 26, 0, 0, 0, 0), (.iaload, 27, 0, 0, 0, 0), (.istore 5, 29, 0, 0, 0, 0), x_0, (.aload_n 0, 30, 0, 0, 0, 0), (.getfield 28, 33, 0, 9, 9, 957), x_0, x_0, (.bipush 40, 35, 0, 0, 0, 0), x_0, (.iload_n 1, 36, 0, 0, 0, 0), (.imul, 37, 0, 0, 0, 0), (.iload_n 2, 38, 0, 0, 0, 0), (.iadd, 39, 0, 0, 0, 0), (.iload_n 3, 40, 0, 0, 0, 0), (.iastore, 41, 0, 0, 0, 0), (.aload_n 0, 42, 0, 0, 0, 0), (.iload 5, 44, 0, 0, 0, 0), x_0, (.invokevirtual 99, 47, 152, 1, 9, 1075), x_0, x_0, (.ireturn, 48, 0, 0, 0, 0)])
def mX9_at : XM := (yX9_at, cX9_at, 4, (some (.int)), [(.aload_n 0, 1, 0, 0, 0, 0), (.iload_n 1, 2, 0, 0, 0, 0), (.iload_n 2, 3, 0, 0, 0, 0), (.invokevirtual 95, 6, 157, 2, 9, 1071), x_0, x_0, (.istore_n 3, 7, 0, 0, 0, 0), (.iload_n 3, 8, 0, 0, 0, 0), (.ifCond .eq 7, 11, 15, 0, 0, 0), x_0, x_0, (.iload_n 3, 12, 0, 0, 0, 0), (.goto 18, 15, 30, 0, 0, 0), x_0, x_0, (.aload_n 0, 16, 0, 0, 0, 0), (.aload_n 0, 17, 0, 0, 0, 0), (.getfield 28, 20, 0, 9, 9, 957), x_0, x_0, (.bipush 40, 22, 0, 0, 0, 0), x_0, (.iload_n 1, 23, 0, 0, 0, 0), (.imul, 24, 0, 0, 0, 0), (.iload_n 2, 25, 0, 0, 0, 0), (.iadd, 26, 0, 0, 0, 0), (.iaload, 27, 0, 0, 0, 0), (.invokevirtual 99, 30, 152, 1, 9, 1075), x_0, x_0, (.ireturn, 31, 0, 0, 0, 0)])
def mX9_tear : XM := (yX9_tear, cX9_tear, 2, (some (.int)), [(.iload_n 1, 1, 0, 0, 0, 0), (.invokestatic 83, 4, 153, 1, 9, 1052), x_0, x_0, (.ifCond .ne 5, 7, 9, 0, 0, 0), x_0, x_0, (.iconst (-1), 8, 0, 0, 0, 0), (.ireturn, 9, 0, 0, 0, 0), (.aload_n 0, 10, 0, 0, 0, 0), (.getfield 25, 13, 0, 8, 9, 956), x_0, x_0, (.iload_n 1, 14, 0, 0, 0, 0), (.iaload, 15, 0, 0, 0, 0), (.ifCond .ge 9, 18, 24, 0, 0, 0), x_0, x_0, (.aload_n 0, 19, 0, 0, 0, 0), (.iconst 1, 20, 0, 0, 0, 0), (.invokevirtual 87, 23, 151, 1, 9, 1059), x_0, x_0, (.ireturn, 24, 0, 0, 0, 0), (.aload_n 0, 25, 0, 0, 0, 0), (.getfield 25, 28, 0, 8, 9, 956), x_0, x_0, (.iload_n 1, 29, 0, 0, 0, 0), (.iconst (-1), 30, 0, 0, 0, 0), (.iastore, 31, 0, 0, 0, 0), (.iconst 1, 32, 0, 0, 0, 0), (.ireturn, 33, 0, 0, 0, 0)])
def mX9_isSpan : XM := (yX9_isSpan, cX9_isSpan, 4, (some (.boolean)), [(.iload_n 2, 1, 0, 0, 0, 0), (.ifCond .lt 23, 4, 24, 0, 0, 0), x_0, x_0, (.iload_n 2, 5, 0, 0, 0, 0), (.i2l, 6, 0, 0, 0, 0), (.iload_n 3, 7, 0, 0, 0, 0), (.i2l, 8, 0, 0, 0, 0), (.ladd, 9, 0, 0, 0, 0), (.aload_n 0, 10, 0, 0, 0, 0), (.getfield 25, 13, 0, 8, 9, 956), x_0, x_0, (.iload_n 1, 14, 0, 0, 0, 0), (.iaload, 15, 0, 0, 0, 0), (.i2l, 16, 0, 0, 0, 0), (.lcmp, 17, 0, 0, 0, 0), (.ifCond .gt 7, 20, 24, 0, 0, 0), x_0, x_0, (.iconst 1, 21, 0, 0, 0, 0), (.goto 4, 24, 25, 0, 0, 0), x_0, x_0, (.iconst 0, 25, 0, 0, 0, 0), (.ireturn, 26, 0, 0, 0, 0)])
def mX9_copy : XM := (yX9_copy, cX9_copy, 9, (some (.int)), [(.iload_n 1, 1, 0, 0, 0, 0), (.invokestatic 83, 4, 153, 1, 9, 1052), x_0, x_0, (.ifCond .eq 10, 7, 14, 0, 0, 0), x_0, x_0, (.iload_n 3, 8, 0, 0, 0, 0), (.invokestatic 83, 11, 153, 1, 9, 1052), x_0, x_0, (.ifCond .ne 5, 14, 16, 0, 0, 0), x_0, x_0, (.iconst (-1), 15, 0, 0, 0, 0), (.ireturn, 16, 0, 0, 0, 0), (.iload 5, 18, 0, 0, 0, 0), x_0, (.ifCond .ge 9, 21, 27, 0, 0, 0), x_0, x_0, (.aload_n 0, 22, 0, 0, 0, 0), (.iconst 5, 23, 0, 0, 0, 0), (.invokevirtual 87, 26, 151, 1, 9, 1059), x_0, x_0, (.ireturn, 27, 0, 0, 0, 0), (.aload_n 0, 28, 0, 0, 0, 0), (.getfield 25, 31, 0, 8, 9, 956), x_0, x_0, (.iload_n 1, 32, 0, 0, 0, 0), (.iaload, 33, 0, 0, 0, 0), (.ifCond .lt 12, 36, 45, 0, 0, 0), x_0, x_0, (.aload_n 0, 37, 0, 0, 0, 0), (.getfield 25, 40, 0, 8, 9, 956), x_0, x_0, (.iload_n 3, 41, 0, 0, 0, 0), (.iaload, 42, 0, 0, 0, 0), (.ifCond .ge 9, 45, 51, 0, 0, 0), x_0, x_0, (.aload_n 0, 46, 0, 0, 0, 0), (.iconst 1, 47, 0, 0, 0, 0), (.invokevirtual 87, 50, 151, 1, 9, 1059), x_0, x_0, (.ireturn, 51, 0, 0, 0, 0), (.aload_n 0, 52, 0, 0, 0, 0), (.iload_n 1, 53, 0, 0, 0, 0), (.iload_n 2, 54, 0, 0, 0, 0), (.iload 5, 56, 0, 0, 0, 0), x_0, (.invokevirtual 102, 59, 161, 3, 9, 1091), x_0, x_0, (.ifCond .eq 15, 62, 74, 0, 0, 0), x_0, x_0, (.aload_n 0, 63, 0, 0, 0, 0), (.iload_n 3, 64, 0, 0, 0, 0), (.iload 4, 66, 0, 0, 0, 0), x_0, (.iload 5, 68, 0, 0, 0, 0), x_0, (.invokevirtual 102, 71, 161, 3, 9, 1091), x_0, x_0, (.ifCond .ne 9, 74, 80, 0, 0, 0), x_0, x_0, (.aload_n 0, 75, 0, 0, 0, 0), (.iconst 2, 76, 0, 0, 0, 0), (.invokevirtual 87, 79, 151, 1, 9, 1059), x_0, x_0, (.ireturn, 80, 0, 0, 0, 0), (.iload_n 2, 81, 0, 0, 0, 0), (.iload 4, 83, 0, 0, 0, 0), x_0, (.if_icmp .ge 7, 86, 90, 0, 0, 0), x_0, x_0, (.iconst 1, 87, 0, 0, 0, 0), (.goto 4, 90, 91, 0, 0, 0), x_0, x_0, (.iconst 0, 91, 0, 0, 0, 0), (.istore 6, 93, 0, 0, 0, 0), x_0, (.iconst 0, 94, 0, 0, 0, 0), (.istore 7, 96, 0, 0, 0, 0), x_0, (.iload 7, 98, 0, 0, 0, 0), x_0, (.iload 5, 100, 0, 0, 0, 0), x_0, (.if_icmp .ge 57, 103, 157, 0, 0, 0), x_0, x_0, (.iload 6, 105, 0, 0, 0, 0), x_0, (.ifCond .eq 13, 108, 118, 0, 0, 0), x_0, x_0, (.iload 5, 110, 0, 0, 0, 0), x_0, (.iconst 1, 111, 0, 0, 0, 0), (.isub, 112, 0, 0, 0, 0), (.iload 7, 114, 0, 0, 0, 0), x_0, (.isub, 115, 0, 0, 0, 0), (.goto 5, 118, 120, 0, 0, 0), x_0, x_0, (.iload 7, 120, 0, 0, 0, 0), x_0, (.istore 8, 122, 0, 0, 0, 0), x_0, (.aload_n 0, 123, 0, 0, 0, 0), (.getfield 28, 126, 0, 9, 9, 957), x_0, x_0, (.bipush 40, 128, 0, 0, 0, 0), x_0, (.iload_n 3, 129, 0, 0, 0, 0), (.imul, 130, 0, 0, 0, 0), (.iload 4, 132, 0, 0, 0, 0), x_0, (.iadd, 133, 0, 0, 0, 0), (.iload 8, 135, 0, 0, 0, 0), x_0, (.iadd, 136, 0, 0, 0, 0), (.aload_n 0, 137, 0, 0, 0, 0), (.getfield 28, 140, 0, 9, 9, 957), x_0, x_0, (.bipush 40, 142, 0, 0, 0, 0), x_0, (.iload_n 1, 143, 0, 0, 0, 0), (.imul, 144, 0, 0, 0, 0), (.iload_n 2, 145, 0, 0, 0, 0), (.iadd, 146, 0, 0, 0, 0), (.iload 8, 148, 0, 0, 0, 0), x_0, (.iadd, 149, 0, 0, 0, 0), (.iaload, 150, 0, 0, 0, 0), (.iastore, 151, 0, 0, 0, 0), (.iinc 7 1, 154, 0, 0, 0, 0), x_0, x_0, (.goto (-58), 157, 96, 0, 0, 0), x_0, x_0, (.iconst 1, 158, 0, 0, 0, 0), (.ireturn, 159, 0, 0, 0, 0)])
def mX9_mean : XM := (yX9_mean, cX9_mean, 5, (some (.int)), [(.iload_n 1, 1, 0, 0, 0, 0), (.invokestatic 83, 4, 153, 1, 9, 1052), x_0, x_0, (.ifCond .ne 5, 7, 9, 0, 0, 0), x_0, x_0, (.iconst (-1), 8, 0, 0, 0, 0), (.ireturn, 9, 0, 0, 0, 0), (.aload_n 0, 10, 0, 0, 0, 0), (.getfield 25, 13, 0, 8, 9, 956), x_0, x_0, (.iload_n 1, 14, 0, 0, 0, 0), (.iaload, 15, 0, 0, 0, 0), (.ifCond .ge 9, 18, 24, 0, 0, 0), x_0, x_0, (.aload_n 0, 19, 0, 0, 0, 0), (.iconst 1, 20, 0, 0, 0, 0), (.invokevirtual 87, 23, 151, 1, 9, 1059), x_0, x_0, (.ireturn, 24, 0, 0, 0, 0), (.aload_n 0, 25, 0, 0, 0, 0), (.getfield 25, 28, 0, 8, 9, 956), x_0, x_0, (.iload_n 1, 29, 0, 0, 0, 0), (.iaload, 30, 0, 0, 0, 0), (.ifCond .ne 9, 33, 39, 0, 0, 0), x_0, x_0, (.aload_n 0, 34, 0, 0, 0, 0), (.iconst 4, 35, 0, 0, 0, 0), (.invokevirtual 87, 38, 151, 1, 9, 1059), x_0, x_0, (.ireturn, 39, 0, 0, 0, 0), (.lconst 0, 40, 0, 0, 0, 0), (.lstore_n 2, 41, 0, 0, 0, 0), (.iconst 0, 42, 0, 0, 0, 0), (.istore 4, 44, 0, 0, 0, 0), x_0, (.iload 4, 46, 0, 0, 0, 0), x_0, (.aload_n 0, 47, 0, 0, 0, 0), (.getfield 25, 50, 0, 8, 9, 956), x_0, x_0, (.iload_n 1, 51, 0, 0, 0, 0), (.iaload, 52, 0, 0, 0, 0), (.if_icmp .ge 25, 55, 77, 0, 0, 0), x_0, x_0, (.lload_n 2, 56, 0, 0, 0, 0), (.aload_n 0, 57, 0, 0, 0, 0), (.getfield 28, 60, 0, 9, 9, 957), x_0, x_0, (.bipush 40, 62, 0, 0, 0, 0), x_0, (.iload_n 1, 63, 0, 0, 0, 0), (.imul, 64, 0, 0, 0, 0), (.iload 4, 66, 0, 0, 0, 0), x_0, (.iadd, 67, 0, 0, 0, 0), (.iaload, 68, 0, 0, 0, 0), (.i2l, 69, 0, 0, 0, 0), (.ladd, 70, 0, 0, 0, 0), (.lstore_n 2, 71, 0, 0, 0, 0), (.iinc 4 1, 74, 0, 0, 0, 0), x_0, x_0, (.goto (-30), 77, 44, 0, 0, 0), x_0, x_0, (.aload_n 0, 78, 0, 0, 0, 0), (.lload_n 2, 79, 0, 0, 0, 0), (.aload_n 0, 80, 0, 0, 0, 0), (.getfield 25, 83, 0, 8, 9, 956), x_0, x_0, (.iload_n 1, 84, 0, 0, 0, 0), (.iaload, 85, 0, 0, 0, 0), (.i2l, 86, 0, 0, 0, 0), (.ldiv, 87, 0, 0, 0, 0), (.l2i, 88, 0, 0, 0, 0), (.invokevirtual 99, 91, 152, 1, 9, 1075), x_0, x_0, (.ireturn, 92, 0, 0, 0, 0)])
def mX9_text : XM := (yX9_text, cX9_text, 4, (some (.int)), [(.iload_n 1, 1, 0, 0, 0, 0), (.invokestatic 106, 4, 154, 1, 9, 1103), x_0, x_0, (.ifCond .eq 9, 7, 13, 0, 0, 0), x_0, x_0, (.iload_n 2, 8, 0, 0, 0, 0), (.bipush 60, 10, 0, 0, 0, 0), x_0, (.if_icmp .le 5, 13, 15, 0, 0, 0), x_0, x_0, (.iconst (-1), 14, 0, 0, 0, 0), (.ireturn, 15, 0, 0, 0, 0), (.iload_n 2, 16, 0, 0, 0, 0), (.ifCond .ge 9, 19, 25, 0, 0, 0), x_0, x_0, (.aload_n 0, 20, 0, 0, 0, 0), (.iconst 5, 21, 0, 0, 0, 0), (.invokevirtual 87, 24, 151, 1, 9, 1059), x_0, x_0, (.ireturn, 25, 0, 0, 0, 0), (.aload_n 0, 26, 0, 0, 0, 0), (.getfield 31, 29, 0, 10, 9, 958), x_0, x_0, (.iload_n 1, 30, 0, 0, 0, 0), (.iload_n 2, 31, 0, 0, 0, 0), (.iastore, 32, 0, 0, 0, 0), (.iconst 0, 33, 0, 0, 0, 0), (.istore_n 3, 34, 0, 0, 0, 0), (.iload_n 3, 35, 0, 0, 0, 0), (.bipush 60, 37, 0, 0, 0, 0), x_0, (.if_icmp .ge 22, 40, 59, 0, 0, 0), x_0, x_0, (.aload_n 0, 41, 0, 0, 0, 0), (.getfield 34, 44, 0, 11, 9, 959), x_0, x_0, (.bipush 60, 46, 0, 0, 0, 0), x_0, (.iload_n 1, 47, 0, 0, 0, 0), (.imul, 48, 0, 0, 0, 0), (.iload_n 3, 49, 0, 0, 0, 0), (.iadd, 50, 0, 0, 0, 0), (.bipush 32, 52, 0, 0, 0, 0), x_0, (.iastore, 53, 0, 0, 0, 0), (.iinc 3 1, 56, 0, 0, 0, 0), x_0, x_0, (.goto (-22), 59, 34, 0, 0, 0), x_0, x_0, (.iload_n 2, 60, 0, 0, 0, 0), (.ireturn, 61, 0, 0, 0, 0)])
def mX9_put : XM := (yX9_put, cX9_put, 5, (some (.int)), [(.iload_n 1, 1, 0, 0, 0, 0), (.invokestatic 106, 4, 154, 1, 9, 1103), x_0, x_0, (.ifCond .ne 5, 7, 9, 0, 0, 0), x_0, x_0, (.iconst (-1), 8, 0, 0, 0, 0), (.ireturn, 9, 0, 0, 0, 0), (.aload_n 0, 10, 0, 0, 0, 0), (.getfield 31, 13, 0, 10, 9, 958), x_0, x_0, (.iload_n 1, 14, 0, 0, 0, 0), (.iaload, 15, 0, 0, 0, 0), (.ifCond .ge 9, 18, 24, 0, 0, 0), x_0, x_0, (.aload_n 0, 19, 0, 0, 0, 0), (.iconst 1, 20, 0, 0, 0, 0), (.invokevirtual 87, 23, 151, 1, 9, 1059), x_0, x_0, (.ireturn, 24, 0, 0, 0, 0), (.iload_n 2, 25, 0, 0, 0, 0), (.i2l, 26, 0, 0, 0, 0), (.lconst 0, 27, 0, 0, 0, 0), (.aload_n 0, 28, 0, 0, 0, 0), (.getfield 31, 31, 0, 10, 9, 958), x_0, x_0, (.iload_n 1, 32, 0, 0, 0, 0), (.iaload, 33, 0, 0, 0, 0), (.iconst 1, 34, 0, 0, 0, 0), (.isub, 35, 0, 0, 0, 0), (.i2l, 36, 0, 0, 0, 0), (.invokestatic 77, 39, 149, 3, 9, 1056), x_0, x_0, (.ifCond .ne 9, 42, 48, 0, 0, 0), x_0, x_0, (.aload_n 0, 43, 0, 0, 0, 0), (.iconst 2, 44, 0, 0, 0, 0), (.invokevirtual 87, 47, 151, 1, 9, 1059), x_0, x_0, (.ireturn, 48, 0, 0, 0, 0), (.aload_n 0, 49, 0, 0, 0, 0), (.getfield 34, 52, 0, 11, 9, 959), x_0, x_0, (.bipush 60, 54, 0, 0, 0, 0), x_0, (.iload_n 1, 55, 0, 0, 0, 0), (.imul, 56, 0, 0, 0, 0), (.iload_n 2, 57, 0, 0, 0, 0), (.iadd, 58, 0, 0, 0, 0), (.iaload, 59, 0, 0, 0, 0), (.istore 4, 61, 0, 0, 0, 0), x_0, (.aload_n 0, 62, 0, 0, 0, 0), (.getfield 34, 65, 0, 11, 9, 959), x_0, x_0, (.bipush 60, 67, 0, 0, 0, 0), x_0, (.iload_n 1, 68, 0, 0, 0, 0), (.imul, 69, 0, 0, 0, 0), (.iload_n 2, 70, 0, 0, 0, 0), (.iadd, 71, 0, 0, 0, 0), (.iload_n 3, 72, 0, 0, 0, 0), (.i2b, 73, 0, 0, 0, 0), (.iastore, 74, 0, 0, 0, 0), (.iload 4, 76, 0, 0, 0, 0), x_0, (.sipush 1000, 79, 0, 0, 0, 0), x_0, x_0, (.iadd, 80, 0, 0, 0, 0), (.ireturn, 81, 0, 0, 0, 0)])
def mX9_here : XM := (yX9_here, cX9_here, 1, (some (.int)), [(.aload_n 0, 1, 0, 0, 0, 0), (.getfield 34, 4, 0, 11, 9, 959), x_0, x_0, (.aload_n 0, 5, 0, 0, 0, 0), (.getfield 109, 8, 0, 17, 9, 965), x_0, x_0, (.aload_n 0, 9, 0, 0, 0, 0), (.getfield 112, 12, 0, 18, 9, 966), x_0, x_0, (.iadd, 13, 0, 0, 0, 0), (.iaload, 14, 0, 0, 0, 0), (.ireturn, 15, 0, 0, 0, 0)])
def mX9_skip : XM := (yX9_skip, cX9_skip, 1, none, [(.aload_n 0, 1, 0, 0, 0, 0), (.getfield 112, 4, 0, 18, 9, 966), x_0, x_0, (.aload_n 0, 5, 0, 0, 0, 0), (.getfield 115, 8, 0, 19, 9, 967), x_0, x_0, (.if_icmp .ge 25, 11, 33, 0, 0, 0), x_0, x_0, (.aload_n 0, 12, 0, 0, 0, 0), (.invokevirtual 118, 15, 166, 0, 9, 1127), x_0, x_0, (.bipush 32, 17, 0, 0, 0, 0), x_0, (.if_icmp .ne 16, 20, 33, 0, 0, 0), x_0, x_0, (.aload_n 0, 21, 0, 0, 0, 0), (.dup, 22, 0, 0, 0, 0), (.getfield 112, 25, 0, 18, 9, 966), x_0, x_0, (.iconst 1, 26, 0, 0, 0, 0), (.iadd, 27, 0, 0, 0, 0), (.putfield 112, 30, 0, 18, 9, 966), x_0, x_0, (.goto (-30), 33, 0, 0, 0, 0), x_0, x_0, (.return_, 34, 0, 0, 0, 0)])
def mX9_figure : XM := (yX9_figure, cX9_figure, 3, (some (.int)), [(.aload_n 0, 1, 0, 0, 0, 0), (.getfield 112, 4, 0, 18, 9, 966), x_0, x_0, (.aload_n 0, 5, 0, 0, 0, 0), (.getfield 115, 8, 0, 19, 9, 967), x_0, x_0, (.if_icmp .eq 24, 11, 32, 0, 0, 0), x_0, x_0, (.aload_n 0, 12, 0, 0, 0, 0), (.invokevirtual 118, 15, 166, 0, 9, 1127), x_0, x_0, (.i2l, 16, 0, 0, 0, 0), (.bipush 48, 18, 0, 0, 0, 0), x_0, (.iload_n 1, 19, 0, 0, 0, 0), (.iadd, 20, 0, 0, 0, 0), (.i2l, 21, 0, 0, 0, 0), (.bipush 48, 23, 0, 0, 0, 0), x_0, (.iload_n 2, 24, 0, 0, 0, 0), (.iadd, 25, 0, 0, 0, 0), (.i2l, 26, 0, 0, 0, 0), (.invokestatic 77, 29, 149, 3, 9, 1056), x_0, x_0, (.ifCond .ne 6, 32, 35, 0, 0, 0), x_0, x_0, (.bipush (-9), 34, 0, 0, 0, 0), x_0, (.ireturn, 35, 0, 0, 0, 0), (.aload_n 0, 36, 0, 0, 0, 0), (.dup, 37, 0, 0, 0, 0), (.getfield 112, 40, 0, 18, 9, 966), x_0, x_0, (.iconst 1, 41, 0, 0, 0, 0), (.iadd, 42, 0, 0, 0, 0), (.putfield 112, 45, 0, 18, 9, 966), x_0, x_0, (.aload_n 0, 46, 0, 0, 0, 0), (.getfield 34, 49, 0, 11, 9, 959), x_0, x_0, (.aload_n 0, 50, 0, 0, 0, 0), (.getfield 109, 53, 0, 17, 9, 965), x_0, x_0, (.aload_n 0, 54, 0, 0, 0, 0), (.getfield 112, 57, 0, 18, 9, 966), x_0, x_0, (.iadd, 58, 0, 0, 0, 0), (.iconst 1, 59, 0, 0, 0, 0), (.isub, 60, 0, 0, 0, 0), (.iaload, 61, 0, 0, 0, 0), (.bipush 48, 63, 0, 0, 0, 0), x_0, (.isub, 64, 0, 0, 0, 0), (.ireturn, 65, 0, 0, 0, 0)])
def mX9_figures : XM := (yX9_figures, cX9_figures, 3, (some (.int)), [(.aload_n 0, 1, 0, 0, 0, 0), (.iconst 0, 2, 0, 0, 0, 0), (.iconst 2, 3, 0, 0, 0, 0), (.invokevirtual 122, 6, 168, 2, 9, 1131), x_0, x_0, (.istore_n 1, 7, 0, 0, 0, 0), (.iload_n 1, 8, 0, 0, 0, 0), (.bipush (-9), 10, 0, 0, 0, 0), x_0, (.if_icmp .ne 8, 13, 18, 0, 0, 0), x_0, x_0, (.bipush (-9), 15, 0, 0, 0, 0), x_0, (.goto 19, 18, 34, 0, 0, 0), x_0, x_0, (.aload_n 0, 19, 0, 0, 0, 0), (.iconst 0, 20, 0, 0, 0, 0), (.iload_n 1, 21, 0, 0, 0, 0), (.iconst 2, 22, 0, 0, 0, 0), (.if_icmp .ne 7, 25, 29, 0, 0, 0), x_0, x_0, (.iconst 3, 26, 0, 0, 0, 0), (.goto 5, 29, 31, 0, 0, 0), x_0, x_0, (.bipush 9, 31, 0, 0, 0, 0), x_0, (.invokevirtual 122, 34, 168, 2, 9, 1131), x_0, x_0, (.istore_n 2, 35, 0, 0, 0, 0), (.iload_n 2, 36, 0, 0, 0, 0), (.bipush (-9), 38, 0, 0, 0, 0), x_0, (.if_icmp .ne 8, 41, 46, 0, 0, 0), x_0, x_0, (.bipush (-9), 43, 0, 0, 0, 0), x_0, (.goto 9, 46, 52, 0, 0, 0), x_0, x_0, (.bipush 10, 48, 0, 0, 0, 0), x_0, (.iload_n 1, 49, 0, 0, 0, 0), (.imul, 50, 0, 0, 0, 0), (.iload_n 2, 51, 0, 0, 0, 0), (.iadd, 52, 0, 0, 0, 0), (.ireturn, 53, 0, 0, 0, 0)])
def mX9_readsSlit : XM := (yX9_readsSlit, cX9_readsSlit, 1, (some (.boolean)), [(.aload_n 0, 1, 0, 0, 0, 0), (.invokevirtual 125, 4, 167, 0, 9, 1123), x_0, x_0, (.aload_n 0, 5, 0, 0, 0, 0), (.getfield 112, 8, 0, 18, 9, 966), x_0, x_0, (.aload_n 0, 9, 0, 0, 0, 0), (.getfield 115, 12, 0, 19, 9, 967), x_0, x_0, (.if_icmp .eq 12, 15, 24, 0, 0, 0), x_0, x_0, (.aload_n 0, 16, 0, 0, 0, 0), (.invokevirtual 118, 19, 166, 0, 9, 1127), x_0, x_0, (.bipush 111, 21, 0, 0, 0, 0), x_0, (.if_icmp .eq 5, 24, 26, 0, 0, 0), x_0, x_0, (.iconst 0, 25, 0, 0, 0, 0), (.ireturn, 26, 0, 0, 0, 0), (.aload_n 0, 27, 0, 0, 0, 0), (.dup, 28, 0, 0, 0, 0), (.getfield 112, 31, 0, 18, 9, 966), x_0, x_0, (.iconst 1, 32, 0, 0, 0, 0), (.iadd, 33, 0, 0, 0, 0), (.putfield 112, 36, 0, 18, 9, 966), x_0, x_0, (.aload_n 0, 37, 0, 0, 0, 0), (.aload_n 0, 38, 0, 0, 0, 0), (.iconst 1, 39, 0, 0, 0, 0), (.iconst 5, 40, 0, 0, 0, 0), (.invokevirtual 122, 43, 168, 2, 9, 1131), x_0, x_0, (.putfield 128, 46, 0, 20, 9, 968), x_0, x_0, (.aload_n 0, 47, 0, 0, 0, 0), (.aload_n 0, 48, 0, 0, 0, 0), (.getfield 128, 51, 0, 20, 9, 968), x_0, x_0, (.bipush (-9), 53, 0, 0, 0, 0), x_0, (.if_icmp .ne 8, 56, 61, 0, 0, 0), x_0, x_0, (.bipush (-9), 58, 0, 0, 0, 0), x_0, (.goto 7, 61, 65, 0, 0, 0), x_0, x_0, (.aload_n 0, 62, 0, 0, 0, 0), (.invokevirtual 131, 65, 169, 0, 9, 1135), x_0, x_0, (.putfield 134, 68, 0, 21, 9, 969), x_0, x_0, (.aload_n 0, 69, 0, 0, 0, 0), (.getfield 134, 72, 0, 21, 9, 969), x_0, x_0, (.bipush (-9), 74, 0, 0, 0, 0), x_0, (.if_icmp .eq 7, 77, 81, 0, 0, 0), x_0, x_0, (.iconst 1, 78, 0, 0, 0, 0), (.goto 4, 81, 82, 0, 0, 0), x_0, x_0, (.iconst 0, 82, 0, 0, 0, 0), (.ireturn, 83, 0, 0, 0, 0)])
def mX9_kindOfLetter : XM := (yX9_kindOfLetter, cX9_kindOfLetter, 1, (some (.int)), [(.iload_n 0, 1, 0, 0, 0, 0), (.bipush 115, 3, 0, 0, 0, 0), x_0, (.if_icmp .ne 7, 6, 10, 0, 0, 0), x_0, x_0, (.iconst 0, 7, 0, 0, 0, 0), (.goto 55, 10, 62, 0, 0, 0), x_0, x_0, (.iload_n 0, 11, 0, 0, 0, 0), (.bipush 108, 13, 0, 0, 0, 0), x_0, (.if_icmp .ne 7, 16, 20, 0, 0, 0), x_0, x_0, (.iconst 1, 17, 0, 0, 0, 0), (.goto 45, 20, 62, 0, 0, 0), x_0, x_0, (.iload_n 0, 21, 0, 0, 0, 0), (.bipush 104, 23, 0, 0, 0, 0), x_0, (.if_icmp .ne 7, 26, 30, 0, 0, 0), x_0, x_0, (.iconst 2, 27, 0, 0, 0, 0), (.goto 35, 30, 62, 0, 0, 0), x_0, x_0, (.iload_n 0, 31, 0, 0, 0, 0), (.bipush 118, 33, 0, 0, 0, 0), x_0, (.if_icmp .ne 7, 36, 40, 0, 0, 0), x_0, x_0, (.iconst 3, 37, 0, 0, 0, 0), (.goto 25, 40, 62, 0, 0, 0), x_0, x_0, (.iload_n 0, 41, 0, 0, 0, 0), (.bipush 112, 43, 0, 0, 0, 0), x_0, (.if_icmp .ne 7, 46, 50, 0, 0, 0), x_0, x_0, (.iconst 4, 47, 0, 0, 0, 0), (.goto 15, 50, 62, 0, 0, 0), x_0, x_0, (.iload_n 0, 51, 0, 0, 0, 0), (.bipush 102, 53, 0, 0, 0, 0), x_0, (.if_icmp .ne 7, 56, 60, 0, 0, 0), x_0, x_0, (.iconst 5, 57, 0, 0, 0, 0), (.goto 5, 60, 62, 0, 0, 0), x_0, x_0, (.bipush (-9), 62, 0, 0, 0, 0), x_0, (.ireturn, 63, 0, 0, 0, 0)])
def mX9_readsLight : XM := (yX9_readsLight, cX9_readsLight, 5, (some (.boolean)), [(.aload_n 0, 1, 0, 0, 0, 0), (.invokevirtual 118, 4, 166, 0, 9, 1127), x_0, x_0, (.invokestatic 137, 7, 171, 1, 9, 1143), x_0, x_0, (.istore_n 1, 8, 0, 0, 0, 0), (.iload_n 1, 9, 0, 0, 0, 0), (.bipush (-9), 11, 0, 0, 0, 0), x_0, (.if_icmp .eq 11, 14, 22, 0, 0, 0), x_0, x_0, (.aload_n 0, 15, 0, 0, 0, 0), (.getfield 140, 18, 0, 23, 9, 971), x_0, x_0, (.iconst 5, 19, 0, 0, 0, 0), (.if_icmp .ne 5, 22, 24, 0, 0, 0), x_0, x_0, (.iconst 0, 23, 0, 0, 0, 0), (.ireturn, 24, 0, 0, 0, 0), (.aload_n 0, 25, 0, 0, 0, 0), (.dup, 26, 0, 0, 0, 0), (.getfield 112, 29, 0, 18, 9, 966), x_0, x_0, (.iconst 1, 30, 0, 0, 0, 0), (.iadd, 31, 0, 0, 0, 0), (.putfield 112, 34, 0, 18, 9, 966), x_0, x_0, (.aload_n 0, 35, 0, 0, 0, 0), (.invokevirtual 131, 38, 169, 0, 9, 1135), x_0, x_0, (.istore_n 2, 39, 0, 0, 0, 0), (.iload_n 2, 40, 0, 0, 0, 0), (.bipush (-9), 42, 0, 0, 0, 0), x_0, (.if_icmp .ne 8, 45, 50, 0, 0, 0), x_0, x_0, (.bipush (-9), 47, 0, 0, 0, 0), x_0, (.goto 9, 50, 56, 0, 0, 0), x_0, x_0, (.aload_n 0, 51, 0, 0, 0, 0), (.iconst 0, 52, 0, 0, 0, 0), (.iconst 5, 53, 0, 0, 0, 0), (.invokevirtual 122, 56, 168, 2, 9, 1131), x_0, x_0, (.istore_n 3, 57, 0, 0, 0, 0), (.iload_n 3, 58, 0, 0, 0, 0), (.bipush (-9), 60, 0, 0, 0, 0), x_0, (.if_icmp .ne 8, 63, 68, 0, 0, 0), x_0, x_0, (.bipush (-9), 65, 0, 0, 0, 0), x_0, (.goto 10, 68, 75, 0, 0, 0), x_0, x_0, (.aload_n 0, 69, 0, 0, 0, 0), (.iconst 1, 70, 0, 0, 0, 0), (.bipush 9, 72, 0, 0, 0, 0), x_0, (.invokevirtual 122, 75, 168, 2, 9, 1131), x_0, x_0, (.istore 4, 77, 0, 0, 0, 0), x_0, (.iload 4, 79, 0, 0, 0, 0), x_0, (.bipush (-9), 81, 0, 0, 0, 0), x_0, (.if_icmp .ne 5, 84, 86, 0, 0, 0), x_0, x_0, (.iconst 0, 85, 0, 0, 0, 0), (.ireturn, 86, 0, 0, 0, 0), (.aload_n 0, 87, 0, 0, 0, 0), (.getfield 44, 90, 0, 22, 9, 970), x_0, x_0, (.iconst 4, 91, 0, 0, 0, 0), (.aload_n 0, 92, 0, 0, 0, 0), (.getfield 140, 95, 0, 23, 9, 971), x_0, x_0, (.imul, 96, 0, 0, 0, 0), (.iload_n 1, 97, 0, 0, 0, 0), (.iastore, 98, 0, 0, 0, 0), (.aload_n 0, 99, 0, 0, 0, 0), (.getfield 44, 102, 0, 22, 9, 970), x_0, x_0, (.iconst 4, 103, 0, 0, 0, 0), (.aload_n 0, 104, 0, 0, 0, 0), (.getfield 140, 107, 0, 23, 9, 971), x_0, x_0, (.imul, 108, 0, 0, 0, 0), (.iconst 1, 109, 0, 0, 0, 0), (.iadd, 110, 0, 0, 0, 0), (.iload_n 2, 111, 0, 0, 0, 0), (.iastore, 112, 0, 0, 0, 0), (.aload_n 0, 113, 0, 0, 0, 0), (.getfield 44, 116, 0, 22, 9, 970), x_0, x_0, (.iconst 4, 117, 0, 0, 0, 0), (.aload_n 0, 118, 0, 0, 0, 0), (.getfield 140, 121, 0, 23, 9, 971), x_0, x_0, (.imul, 122, 0, 0, 0, 0), (.iconst 2, 123, 0, 0, 0, 0), (.iadd, 124, 0, 0, 0, 0), (.iload_n 3, 125, 0, 0, 0, 0), (.iconst 2, 126, 0, 0, 0, 0), (.isub, 127, 0, 0, 0, 0), (.iastore, 128, 0, 0, 0, 0), (.aload_n 0, 129, 0, 0, 0, 0), (.getfield 44, 132, 0, 22, 9, 970), x_0, x_0, (.iconst 4, 133, 0, 0, 0, 0), (.aload_n 0, 134, 0, 0, 0, 0), (.getfield 140, 137, 0, 23, 9, 971), x_0, x_0, (.imul, 138, 0, 0, 0, 0), (.iconst 3, 139, 0, 0, 0, 0), (.iadd, 140, 0, 0, 0, 0), (.iload 4, 142, 0, 0, 0, 0), x_0, (.iastore, 143, 0, 0, 0, 0), (.aload_n 0, 144, 0, 0, 0, 0), (.dup, 145, 0, 0, 0, 0), (.getfield 140, 148, 0, 23, 9, 971), x_0, x_0, (.iconst 1, 149, 0, 0, 0, 0), (.iadd, 150, 0, 0, 0, 0), (.putfield 140, 153, 0, 23, 9, 971), x_0, x_0, (.iconst 1, 154, 0, 0, 0, 0), (.ireturn, 155, 0, 0, 0, 0)])
def mX9_faultOf : XM := (yX9_faultOf, cX9_faultOf, 3, (some (.int)), [(.aload_n 0, 1, 0, 0, 0, 0), (.bipush 60, 3, 0, 0, 0, 0), x_0, (.iload_n 1, 4, 0, 0, 0, 0), (.imul, 5, 0, 0, 0, 0), (.putfield 109, 8, 0, 17, 9, 965), x_0, x_0, (.aload_n 0, 9, 0, 0, 0, 0), (.iconst 0, 10, 0, 0, 0, 0), (.putfield 112, 13, 0, 18, 9, 966), x_0, x_0, (.aload_n 0, 14, 0, 0, 0, 0), (.aload_n 0, 15, 0, 0, 0, 0), (.getfield 31, 18, 0, 10, 9, 958), x_0, x_0, (.iload_n 1, 19, 0, 0, 0, 0), (.iaload, 20, 0, 0, 0, 0), (.putfield 115, 23, 0, 19, 9, 967), x_0, x_0, (.aload_n 0, 24, 0, 0, 0, 0), (.iconst 0, 25, 0, 0, 0, 0), (.putfield 140, 28, 0, 23, 9, 971), x_0, x_0, (.aload_n 0, 29, 0, 0, 0, 0), (.invokevirtual 143, 32, 170, 0, 9, 1119), x_0, x_0, (.istore_n 2, 33, 0, 0, 0, 0), (.iload_n 2, 34, 0, 0, 0, 0), (.ifCond .eq 7, 37, 41, 0, 0, 0), x_0, x_0, (.aload_n 0, 38, 0, 0, 0, 0), (.invokevirtual 125, 41, 167, 0, 9, 1123), x_0, x_0, (.iload_n 2, 42, 0, 0, 0, 0), (.ifCond .eq 30, 45, 72, 0, 0, 0), x_0, x_0, (.aload_n 0, 46, 0, 0, 0, 0), (.getfield 112, 49, 0, 18, 9, 966), x_0, x_0, (.aload_n 0, 50, 0, 0, 0, 0), (.getfield 115, 53, 0, 19, 9, 967), x_0, x_0, (.if_icmp .ge 19, 56, 72, 0, 0, 0), x_0, x_0, (.aload_n 0, 57, 0, 0, 0, 0), (.invokevirtual 147, 60, 172, 0, 9, 1139), x_0, x_0, (.istore_n 2, 61, 0, 0, 0, 0), (.iload_n 2, 62, 0, 0, 0, 0), (.ifCond .eq (-21), 65, 41, 0, 0, 0), x_0, x_0, (.aload_n 0, 66, 0, 0, 0, 0), (.invokevirtual 125, 69, 167, 0, 9, 1123), x_0, x_0, (.goto (-28), 72, 41, 0, 0, 0), x_0, x_0, (.iload_n 2, 73, 0, 0, 0, 0), (.ifCond .eq 15, 76, 88, 0, 0, 0), x_0, x_0, (.aload_n 0, 77, 0, 0, 0, 0), (.getfield 140, 80, 0, 23, 9, 971), x_0, x_0, (.ifCond .le 8, 83, 88, 0, 0, 0), x_0, x_0, (.bipush (-9), 85, 0, 0, 0, 0), x_0, (.goto 7, 88, 92, 0, 0, 0), x_0, x_0, (.aload_n 0, 89, 0, 0, 0, 0), (.getfield 112, 92, 0, 18, 9, 966), x_0, x_0, (.ireturn, 93, 0, 0, 0, 0)])
def mX9_fault : XM := (yX9_fault, cX9_fault, 2, (some (.int)), [(.iload_n 1, 1, 0, 0, 0, 0), (.invokestatic 106, 4, 154, 1, 9, 1103), x_0, x_0, (.ifCond .ne 5, 7, 9, 0, 0, 0), x_0, x_0, (.iconst (-1), 8, 0, 0, 0, 0), (.ireturn, 9, 0, 0, 0, 0), (.aload_n 0, 10, 0, 0, 0, 0), (.getfield 31, 13, 0, 10, 9, 958), x_0, x_0, (.iload_n 1, 14, 0, 0, 0, 0), (.iaload, 15, 0, 0, 0, 0), (.ifCond .ge 11, 18, 26, 0, 0, 0), x_0, x_0, (.aload_n 0, 19, 0, 0, 0, 0), (.iconst 1, 20, 0, 0, 0, 0), (.invokevirtual 87, 23, 151, 1, 9, 1059), x_0, x_0, (.goto 8, 26, 31, 0, 0, 0), x_0, x_0, (.aload_n 0, 27, 0, 0, 0, 0), (.iload_n 1, 28, 0, 0, 0, 0), (.invokevirtual 150, 31, 173, 1, 9, 1115), x_0, x_0, (.ireturn, 32, 0, 0, 0, 0)])
def mX9_dome : XM := (yX9_dome, cX9_dome, 3, (some (.int)), [(.iload_n 1, 1, 0, 0, 0, 0), (.invokestatic 106, 4, 154, 1, 9, 1103), x_0, x_0, (.ifCond .ne 5, 7, 9, 0, 0, 0), x_0, x_0, (.iconst (-1), 8, 0, 0, 0, 0), (.ireturn, 9, 0, 0, 0, 0), (.aload_n 0, 10, 0, 0, 0, 0), (.getfield 31, 13, 0, 10, 9, 958), x_0, x_0, (.iload_n 1, 14, 0, 0, 0, 0), (.iaload, 15, 0, 0, 0, 0), (.ifCond .ge 9, 18, 24, 0, 0, 0), x_0, x_0, (.aload_n 0, 19, 0, 0, 0, 0), (.iconst 1, 20, 0, 0, 0, 0), (.invokevirtual 87, 23, 151, 1, 9, 1059), x_0, x_0, (.ireturn, 24, 0, 0, 0, 0), (.aload_n 0, 25, 0, 0, 0, 0), (.iload_n 1, 26, 0, 0, 0, 0), (.invokevirtual 150, 29, 173, 1, 9, 1115), x_0, x_0, (.bipush (-9), 31, 0, 0, 0, 0), x_0, (.if_icmp .eq 6, 34, 37, 0, 0, 0), x_0, x_0, (.bipush (-4), 36, 0, 0, 0, 0), x_0, (.ireturn, 37, 0, 0, 0, 0), (.aload_n 0, 38, 0, 0, 0, 0), (.aload_n 0, 39, 0, 0, 0, 0), (.getfield 128, 42, 0, 20, 9, 968), x_0, x_0, (.putfield 153, 45, 0, 1, 9, 949), x_0, x_0, (.aload_n 0, 46, 0, 0, 0, 0), (.aload_n 0, 47, 0, 0, 0, 0), (.getfield 134, 50, 0, 21, 9, 969), x_0, x_0, (.putfield 156, 53, 0, 2, 9, 950), x_0, x_0, (.aload_n 0, 54, 0, 0, 0, 0), (.aload_n 0, 55, 0, 0, 0, 0), (.getfield 140, 58, 0, 23, 9, 971), x_0, x_0, (.putfield 159, 61, 0, 3, 9, 951), x_0, x_0, (.iconst 0, 62, 0, 0, 0, 0), (.istore_n 2, 63, 0, 0, 0, 0), (.iload_n 2, 64, 0, 0, 0, 0), (.aload_n 0, 65, 0, 0, 0, 0), (.getfield 159, 68, 0, 3, 9, 951), x_0, x_0, (.if_icmp .ge 71, 71, 139, 0, 0, 0), x_0, x_0, (.aload_n 0, 72, 0, 0, 0, 0), (.getfield 13, 75, 0, 4, 9, 952), x_0, x_0, (.iload_n 2, 76, 0, 0, 0, 0), (.aload_n 0, 77, 0, 0, 0, 0), (.getfield 44, 80, 0, 22, 9, 970), x_0, x_0, (.iconst 4, 81, 0, 0, 0, 0), (.iload_n 2, 82, 0, 0, 0, 0), (.imul, 83, 0, 0, 0, 0), (.iaload, 84, 0, 0, 0, 0), (.iastore, 85, 0, 0, 0, 0), (.aload_n 0, 86, 0, 0, 0, 0), (.getfield 16, 89, 0, 5, 9, 953), x_0, x_0, (.iload_n 2, 90, 0, 0, 0, 0), (.aload_n 0, 91, 0, 0, 0, 0), (.getfield 44, 94, 0, 22, 9, 970), x_0, x_0, (.iconst 4, 95, 0, 0, 0, 0), (.iload_n 2, 96, 0, 0, 0, 0), (.imul, 97, 0, 0, 0, 0), (.iconst 1, 98, 0, 0, 0, 0), (.iadd, 99, 0, 0, 0, 0), (.iaload, 100, 0, 0, 0, 0), (.iastore, 101, 0, 0, 0, 0), (.aload_n 0, 102, 0, 0, 0, 0), (.getfield 19, 105, 0, 6, 9, 954), x_0, x_0, (.iload_n 2, 106, 0, 0, 0, 0), (.aload_n 0, 107, 0, 0, 0, 0), (.getfield 44, 110, 0, 22, 9, 970), x_0, x_0, (.iconst 4, 111, 0, 0, 0, 0), (.iload_n 2, 112, 0, 0, 0, 0), (.imul, 113, 0, 0, 0, 0), (.iconst 2, 114, 0, 0, 0, 0), (.iadd, 115, 0, 0, 0, 0), (.iaload, 116, 0, 0, 0, 0), (.iastore, 117, 0, 0, 0, 0), (.aload_n 0, 118, 0, 0, 0, 0), (.getfield 22, 121, 0, 7, 9, 955), x_0, x_0, (.iload_n 2, 122, 0, 0, 0, 0), (.aload_n 0, 123, 0, 0, 0, 0), (.getfield 44, 126, 0, 22, 9, 970), x_0, x_0, (.iconst 4, 127, 0, 0, 0, 0), (.iload_n 2, 128, 0, 0, 0, 0), (.imul, 129, 0, 0, 0, 0), (.iconst 3, 130, 0, 0, 0, 0), (.iadd, 131, 0, 0, 0, 0), (.iaload, 132, 0, 0, 0, 0), (.iastore, 133, 0, 0, 0, 0), (.iinc 2 1, 136, 0, 0, 0, 0), x_0, x_0, (.goto (-73), 139, 63, 0, 0, 0), x_0, x_0, (.iconst 0, 140, 0, 0, 0, 0), (.istore_n 2, 141, 0, 0, 0, 0), (.iload_n 2, 142, 0, 0, 0, 0), (.bipush 124, 144, 0, 0, 0, 0), x_0, (.if_icmp .ge 16, 147, 160, 0, 0, 0), x_0, x_0, (.aload_n 0, 148, 0, 0, 0, 0), (.getfield 7, 151, 0, 0, 9, 948), x_0, x_0, (.iload_n 2, 152, 0, 0, 0, 0), (.iconst 0, 153, 0, 0, 0, 0), (.iastore, 154, 0, 0, 0, 0), (.iinc 2 1, 157, 0, 0, 0, 0), x_0, x_0, (.goto (-16), 160, 141, 0, 0, 0), x_0, x_0, (.iconst 1, 161, 0, 0, 0, 0), (.istore_n 2, 162, 0, 0, 0, 0), (.iload_n 2, 163, 0, 0, 0, 0), (.iconst 4, 164, 0, 0, 0, 0), (.if_icmp .ge 21, 167, 185, 0, 0, 0), x_0, x_0, (.aload_n 0, 168, 0, 0, 0, 0), (.getfield 7, 171, 0, 0, 9, 948), x_0, x_0, (.bipush 124, 173, 0, 0, 0, 0), x_0, (.iload_n 2, 174, 0, 0, 0, 0), (.imul, 175, 0, 0, 0, 0), (.iconst 0, 176, 0, 0, 0, 0), (.iadd, 177, 0, 0, 0, 0), (.iconst (-1), 178, 0, 0, 0, 0), (.iastore, 179, 0, 0, 0, 0), (.iinc 2 1, 182, 0, 0, 0, 0), x_0, x_0, (.goto (-20), 185, 162, 0, 0, 0), x_0, x_0, (.aload_n 0, 186, 0, 0, 0, 0), (.getfield 159, 189, 0, 3, 9, 951), x_0, x_0, (.ireturn, 190, 0, 0, 0, 0)])
def mX9_isLight : XM := (yX9_isLight, cX9_isLight, 2, (some (.boolean)), [(.iload_n 1, 1, 0, 0, 0, 0), (.i2l, 2, 0, 0, 0, 0), (.lconst 0, 3, 0, 0, 0, 0), (.aload_n 0, 4, 0, 0, 0, 0), (.getfield 159, 7, 0, 3, 9, 951), x_0, x_0, (.iconst 1, 8, 0, 0, 0, 0), (.isub, 9, 0, 0, 0, 0), (.i2l, 10, 0, 0, 0, 0), (.invokestatic 77, 13, 149, 3, 9, 1056), x_0, x_0, (.ireturn, 14, 0, 0, 0, 0)])
def mX9_ring : XM := (yX9_ring, cX9_ring, 1, (some (.int)), [(.iload_n 0, 1, 0, 0, 0, 0), (.bipush 24, 3, 0, 0, 0, 0), x_0, (.irem, 4, 0, 0, 0, 0), (.bipush 24, 6, 0, 0, 0, 0), x_0, (.iadd, 7, 0, 0, 0, 0), (.bipush 24, 9, 0, 0, 0, 0), x_0, (.irem, 10, 0, 0, 0, 0), (.ireturn, 11, 0, 0, 0, 0)])
def mX9_moved : XM := (yX9_moved, cX9_moved, 3, (some (.int)), [(.iload_n 0, 1, 0, 0, 0, 0), (.tableswitch 47 1 4 #[31, 39, 47, 45], 32, 0, 0, 0, 0), x_0, x_0, x_0, x_0, x_0, x_0, x_0, x_0, x_0, x_0, x_0, x_0, x_0, x_0, x_0, x_0, x_0, x_0, x_0, x_0, x_0, x_0, x_0, x_0, x_0, x_0, x_0, x_0, x_0, x_0, (.iload_n 1, 33, 0, 0, 0, 0), (.iload_n 2, 34, 0, 0, 0, 0), (.iconst 1, 35, 0, 0, 0, 0), (.iadd, 36, 0, 0, 0, 0), (.iconst 2, 37, 0, 0, 0, 0), (.idiv, 38, 0, 0, 0, 0), (.imul, 39, 0, 0, 0, 0), (.ireturn, 40, 0, 0, 0, 0), (.iconst 2, 41, 0, 0, 0, 0), (.iload_n 1, 42, 0, 0, 0, 0), (.imul, 43, 0, 0, 0, 0), (.iload_n 2, 44, 0, 0, 0, 0), (.imul, 45, 0, 0, 0, 0), (.ireturn, 46, 0, 0, 0, 0), (.iconst 0, 47, 0, 0, 0, 0), (.ireturn, 48, 0, 0, 0, 0), (.iload_n 1, 49, 0, 0, 0, 0), (.iload_n 2, 50, 0, 0, 0, 0), (.imul, 51, 0, 0, 0, 0), (.ireturn, 52, 0, 0, 0, 0)])
def mX9_placeAt : XM := (yX9_placeAt, cX9_placeAt, 3, (some (.int)), [(.aload_n 0, 1, 0, 0, 0, 0), (.getfield 16, 4, 0, 5, 9, 953), x_0, x_0, (.iload_n 1, 5, 0, 0, 0, 0), (.iaload, 6, 0, 0, 0, 0), (.aload_n 0, 7, 0, 0, 0, 0), (.getfield 13, 10, 0, 4, 9, 952), x_0, x_0, (.iload_n 1, 11, 0, 0, 0, 0), (.iaload, 12, 0, 0, 0, 0), (.aload_n 0, 13, 0, 0, 0, 0), (.getfield 19, 16, 0, 6, 9, 954), x_0, x_0, (.iload_n 1, 17, 0, 0, 0, 0), (.iaload, 18, 0, 0, 0, 0), (.iload_n 2, 19, 0, 0, 0, 0), (.invokestatic 162, 22, 178, 3, 9, 1170), x_0, x_0, (.iadd, 23, 0, 0, 0, 0), (.invokestatic 166, 26, 177, 1, 9, 1173), x_0, x_0, (.ireturn, 27, 0, 0, 0, 0)])
def mX9_now : XM := (yX9_now, cX9_now, 2, (some (.int)), [(.aload_n 0, 1, 0, 0, 0, 0), (.iload_n 1, 2, 0, 0, 0, 0), (.aload_n 0, 3, 0, 0, 0, 0), (.getfield 7, 6, 0, 0, 9, 948), x_0, x_0, (.iconst 1, 7, 0, 0, 0, 0), (.iaload, 8, 0, 0, 0, 0), (.invokevirtual 169, 11, 179, 2, 9, 1166), x_0, x_0, (.ireturn, 12, 0, 0, 0, 0)])
def mX9_brightOf : XM := (yX9_brightOf, cX9_brightOf, 4, (some (.int)), [(.iload_n 0, 1, 0, 0, 0, 0), (.iconst 3, 2, 0, 0, 0, 0), (.if_icmp .eq 8, 5, 10, 0, 0, 0), x_0, x_0, (.iload_n 0, 6, 0, 0, 0, 0), (.iconst 5, 7, 0, 0, 0, 0), (.if_icmp .ne 16, 10, 23, 0, 0, 0), x_0, x_0, (.iload_n 2, 11, 0, 0, 0, 0), (.iconst 2, 12, 0, 0, 0, 0), (.irem, 13, 0, 0, 0, 0), (.iconst 1, 14, 0, 0, 0, 0), (.if_icmp .ne 9, 17, 23, 0, 0, 0), x_0, x_0, (.iload_n 1, 18, 0, 0, 0, 0), (.iconst 2, 19, 0, 0, 0, 0), (.idiv, 20, 0, 0, 0, 0), (.goto 4, 23, 24, 0, 0, 0), x_0, x_0, (.iload_n 1, 24, 0, 0, 0, 0), (.istore_n 3, 25, 0, 0, 0, 0), (.iload_n 0, 26, 0, 0, 0, 0), (.iconst 5, 27, 0, 0, 0, 0), (.if_icmp .ne 15, 30, 42, 0, 0, 0), x_0, x_0, (.iload_n 2, 31, 0, 0, 0, 0), (.iconst 4, 32, 0, 0, 0, 0), (.irem, 33, 0, 0, 0, 0), (.ifCond .ne 9, 36, 42, 0, 0, 0), x_0, x_0, (.iload_n 3, 37, 0, 0, 0, 0), (.iconst 3, 38, 0, 0, 0, 0), (.iadd, 39, 0, 0, 0, 0), (.goto 4, 42, 43, 0, 0, 0), x_0, x_0, (.iload_n 3, 43, 0, 0, 0, 0), (.ireturn, 44, 0, 0, 0, 0)])
def mX9_brightAt : XM := (yX9_brightAt, cX9_brightAt, 3, (some (.int)), [(.aload_n 0, 1, 0, 0, 0, 0), (.getfield 13, 4, 0, 4, 9, 952), x_0, x_0, (.iload_n 1, 5, 0, 0, 0, 0), (.iaload, 6, 0, 0, 0, 0), (.aload_n 0, 7, 0, 0, 0, 0), (.getfield 22, 10, 0, 7, 9, 955), x_0, x_0, (.iload_n 1, 11, 0, 0, 0, 0), (.iaload, 12, 0, 0, 0, 0), (.iload_n 2, 13, 0, 0, 0, 0), (.invokestatic 172, 16, 181, 3, 9, 1180), x_0, x_0, (.ireturn, 17, 0, 0, 0, 0)])
def mX9_times : XM := (yX9_times, cX9_times, 4, (some (.int)), [(.iload_n 1, 1, 0, 0, 0, 0), (.iload_n 2, 2, 0, 0, 0, 0), (.isub, 3, 0, 0, 0, 0), (.invokestatic 166, 6, 177, 1, 9, 1173), x_0, x_0, (.istore_n 3, 7, 0, 0, 0, 0), (.iload_n 3, 8, 0, 0, 0, 0), (.aload_n 0, 9, 0, 0, 0, 0), (.getfield 153, 12, 0, 1, 9, 949), x_0, x_0, (.if_icmp .lt 7, 15, 19, 0, 0, 0), x_0, x_0, (.iconst 0, 16, 0, 0, 0, 0), (.goto 22, 19, 38, 0, 0, 0), x_0, x_0, (.iload_n 3, 20, 0, 0, 0, 0), (.ifCond .eq 13, 23, 33, 0, 0, 0), x_0, x_0, (.iload_n 3, 24, 0, 0, 0, 0), (.aload_n 0, 25, 0, 0, 0, 0), (.getfield 153, 28, 0, 1, 9, 949), x_0, x_0, (.iconst 1, 29, 0, 0, 0, 0), (.isub, 30, 0, 0, 0, 0), (.if_icmp .ne 7, 33, 37, 0, 0, 0), x_0, x_0, (.iconst 1, 34, 0, 0, 0, 0), (.goto 4, 37, 38, 0, 0, 0), x_0, x_0, (.iconst 2, 38, 0, 0, 0, 0), (.ireturn, 39, 0, 0, 0, 0)])
def mX9_got : XM := (yX9_got, cX9_got, 4, (some (.int)), [(.aload_n 0, 1, 0, 0, 0, 0), (.iload_n 1, 2, 0, 0, 0, 0), (.iload_n 3, 3, 0, 0, 0, 0), (.invokevirtual 175, 6, 182, 2, 9, 1176), x_0, x_0, (.aload_n 0, 7, 0, 0, 0, 0), (.aload_n 0, 8, 0, 0, 0, 0), (.iload_n 1, 9, 0, 0, 0, 0), (.iload_n 3, 10, 0, 0, 0, 0), (.invokevirtual 169, 13, 179, 2, 9, 1166), x_0, x_0, (.iload_n 2, 14, 0, 0, 0, 0), (.invokevirtual 178, 17, 183, 2, 9, 1187), x_0, x_0, (.imul, 18, 0, 0, 0, 0), (.ireturn, 19, 0, 0, 0, 0)])
def mX9_gotNow : XM := (yX9_gotNow, cX9_gotNow, 3, (some (.int)), [(.iconst 0, 1, 0, 0, 0, 0), (.istore_n 1, 2, 0, 0, 0, 0), (.iconst 0, 3, 0, 0, 0, 0), (.istore_n 2, 4, 0, 0, 0, 0), (.iload_n 2, 5, 0, 0, 0, 0), (.aload_n 0, 6, 0, 0, 0, 0), (.getfield 159, 9, 0, 3, 9, 951), x_0, x_0, (.if_icmp .ge 29, 12, 38, 0, 0, 0), x_0, x_0, (.iload_n 1, 13, 0, 0, 0, 0), (.aload_n 0, 14, 0, 0, 0, 0), (.iload_n 2, 15, 0, 0, 0, 0), (.aload_n 0, 16, 0, 0, 0, 0), (.getfield 7, 19, 0, 0, 9, 948), x_0, x_0, (.iconst 2, 20, 0, 0, 0, 0), (.iaload, 21, 0, 0, 0, 0), (.aload_n 0, 22, 0, 0, 0, 0), (.getfield 7, 25, 0, 0, 9, 948), x_0, x_0, (.iconst 1, 26, 0, 0, 0, 0), (.iaload, 27, 0, 0, 0, 0), (.invokevirtual 181, 30, 184, 3, 9, 1183), x_0, x_0, (.iadd, 31, 0, 0, 0, 0), (.istore_n 1, 32, 0, 0, 0, 0), (.iinc 2 1, 35, 0, 0, 0, 0), x_0, x_0, (.goto (-31), 38, 4, 0, 0, 0), x_0, x_0, (.iload_n 1, 39, 0, 0, 0, 0), (.ireturn, 40, 0, 0, 0, 0)])
def mX9_toldOf : XM := (yX9_toldOf, cX9_toldOf, 3, (some (.int)), [(.iload_n 2, 1, 0, 0, 0, 0), (.tableswitch 74 0 4 #[35, 42, 48, 55, 62], 36, 0, 0, 0, 0), x_0, x_0, x_0, x_0, x_0, x_0, x_0, x_0, x_0, x_0, x_0, x_0, x_0, x_0, x_0, x_0, x_0, x_0, x_0, x_0, x_0, x_0, x_0, x_0, x_0, x_0, x_0, x_0, x_0, x_0, x_0, x_0, x_0, x_0, (.aload_n 0, 37, 0, 0, 0, 0), (.getfield 13, 40, 0, 4, 9, 952), x_0, x_0, (.iload_n 1, 41, 0, 0, 0, 0), (.iaload, 42, 0, 0, 0, 0), (.ireturn, 43, 0, 0, 0, 0), (.aload_n 0, 44, 0, 0, 0, 0), (.iload_n 1, 45, 0, 0, 0, 0), (.invokevirtual 184, 48, 180, 1, 9, 1162), x_0, x_0, (.ireturn, 49, 0, 0, 0, 0), (.aload_n 0, 50, 0, 0, 0, 0), (.getfield 19, 53, 0, 6, 9, 954), x_0, x_0, (.iload_n 1, 54, 0, 0, 0, 0), (.iaload, 55, 0, 0, 0, 0), (.ireturn, 56, 0, 0, 0, 0), (.aload_n 0, 57, 0, 0, 0, 0), (.getfield 22, 60, 0, 7, 9, 955), x_0, x_0, (.iload_n 1, 61, 0, 0, 0, 0), (.iaload, 62, 0, 0, 0, 0), (.ireturn, 63, 0, 0, 0, 0), (.aload_n 0, 64, 0, 0, 0, 0), (.iload_n 1, 65, 0, 0, 0, 0), (.aload_n 0, 66, 0, 0, 0, 0), (.getfield 7, 69, 0, 0, 9, 948), x_0, x_0, (.iconst 1, 70, 0, 0, 0, 0), (.iaload, 71, 0, 0, 0, 0), (.invokevirtual 175, 74, 182, 2, 9, 1176), x_0, x_0, (.ireturn, 75, 0, 0, 0, 0), (.aload_n 0, 76, 0, 0, 0, 0), (.iload_n 1, 77, 0, 0, 0, 0), (.aload_n 0, 78, 0, 0, 0, 0), (.getfield 7, 81, 0, 0, 9, 948), x_0, x_0, (.iconst 2, 82, 0, 0, 0, 0), (.iaload, 83, 0, 0, 0, 0), (.aload_n 0, 84, 0, 0, 0, 0), (.getfield 7, 87, 0, 0, 9, 948), x_0, x_0, (.iconst 1, 88, 0, 0, 0, 0), (.iaload, 89, 0, 0, 0, 0), (.invokevirtual 181, 92, 184, 3, 9, 1183), x_0, x_0, (.ireturn, 93, 0, 0, 0, 0)])
def mX9_light : XM := (yX9_light, cX9_light, 3, (some (.int)), [(.aload_n 0, 1, 0, 0, 0, 0), (.iload_n 1, 2, 0, 0, 0, 0), (.invokevirtual 187, 5, 176, 1, 9, 1154), x_0, x_0, (.ifCond .eq 28, 8, 33, 0, 0, 0), x_0, x_0, (.iload_n 2, 9, 0, 0, 0, 0), (.i2l, 10, 0, 0, 0, 0), (.lconst 0, 11, 0, 0, 0, 0), (.ldc2_w 75, 14, 5, 0, 0, 1055), x_0, x_0, (.invokestatic 77, 17, 149, 3, 9, 1056), x_0, x_0, (.ifCond .eq 16, 20, 33, 0, 0, 0), x_0, x_0, (.aload_n 0, 21, 0, 0, 0, 0), (.aload_n 0, 22, 0, 0, 0, 0), (.iload_n 1, 23, 0, 0, 0, 0), (.iload_n 2, 24, 0, 0, 0, 0), (.invokevirtual 190, 27, 186, 2, 9, 1158), x_0, x_0, (.invokevirtual 99, 30, 152, 1, 9, 1075), x_0, x_0, (.goto 4, 33, 34, 0, 0, 0), x_0, x_0, (.iconst (-1), 34, 0, 0, 0, 0), (.ireturn, 35, 0, 0, 0, 0)])
def mX9_isOf : XM := (yX9_isOf, cX9_isOf, 3, (some (.boolean)), [(.aload_n 0, 1, 0, 0, 0, 0), (.getfield 13, 4, 0, 4, 9, 952), x_0, x_0, (.iload_n 1, 5, 0, 0, 0, 0), (.iaload, 6, 0, 0, 0, 0), (.iload_n 2, 7, 0, 0, 0, 0), (.if_icmp .eq 33, 10, 40, 0, 0, 0), x_0, x_0, (.iload_n 2, 11, 0, 0, 0, 0), (.iconst 1, 12, 0, 0, 0, 0), (.if_icmp .ne 13, 15, 25, 0, 0, 0), x_0, x_0, (.aload_n 0, 16, 0, 0, 0, 0), (.getfield 13, 19, 0, 4, 9, 952), x_0, x_0, (.iload_n 1, 20, 0, 0, 0, 0), (.iaload, 21, 0, 0, 0, 0), (.iconst 4, 22, 0, 0, 0, 0), (.if_icmp .eq 18, 25, 40, 0, 0, 0), x_0, x_0, (.iload_n 2, 26, 0, 0, 0, 0), (.iconst 3, 27, 0, 0, 0, 0), (.if_icmp .ne 17, 30, 44, 0, 0, 0), x_0, x_0, (.aload_n 0, 31, 0, 0, 0, 0), (.getfield 13, 34, 0, 4, 9, 952), x_0, x_0, (.iload_n 1, 35, 0, 0, 0, 0), (.iaload, 36, 0, 0, 0, 0), (.iconst 5, 37, 0, 0, 0, 0), (.if_icmp .ne 7, 40, 44, 0, 0, 0), x_0, x_0, (.iconst 1, 41, 0, 0, 0, 0), (.goto 4, 44, 45, 0, 0, 0), x_0, x_0, (.iconst 0, 45, 0, 0, 0, 0), (.ireturn, 46, 0, 0, 0, 0)])
def mX9_moves : XM := (yX9_moves, cX9_moves, 4, (some (.int)), [(.iconst 0, 1, 0, 0, 0, 0), (.istore_n 2, 2, 0, 0, 0, 0), (.iconst 0, 3, 0, 0, 0, 0), (.istore_n 3, 4, 0, 0, 0, 0), (.iload_n 3, 5, 0, 0, 0, 0), (.bipush 8, 7, 0, 0, 0, 0), x_0, (.if_icmp .ge 48, 10, 55, 0, 0, 0), x_0, x_0, (.iload_n 2, 11, 0, 0, 0, 0), (.aload_n 0, 12, 0, 0, 0, 0), (.iload_n 1, 13, 0, 0, 0, 0), (.aload_n 0, 14, 0, 0, 0, 0), (.getfield 7, 17, 0, 0, 9, 948), x_0, x_0, (.iconst 1, 18, 0, 0, 0, 0), (.iaload, 19, 0, 0, 0, 0), (.iload_n 3, 20, 0, 0, 0, 0), (.iadd, 21, 0, 0, 0, 0), (.invokevirtual 169, 24, 179, 2, 9, 1166), x_0, x_0, (.aload_n 0, 25, 0, 0, 0, 0), (.iload_n 1, 26, 0, 0, 0, 0), (.aload_n 0, 27, 0, 0, 0, 0), (.getfield 7, 30, 0, 0, 9, 948), x_0, x_0, (.iconst 1, 31, 0, 0, 0, 0), (.iaload, 32, 0, 0, 0, 0), (.iload_n 3, 33, 0, 0, 0, 0), (.iadd, 34, 0, 0, 0, 0), (.iconst 1, 35, 0, 0, 0, 0), (.iadd, 36, 0, 0, 0, 0), (.invokevirtual 169, 39, 179, 2, 9, 1166), x_0, x_0, (.if_icmp .ne 7, 42, 46, 0, 0, 0), x_0, x_0, (.iconst 0, 43, 0, 0, 0, 0), (.goto 4, 46, 47, 0, 0, 0), x_0, x_0, (.iconst 1, 47, 0, 0, 0, 0), (.iadd, 48, 0, 0, 0, 0), (.istore_n 2, 49, 0, 0, 0, 0), (.iinc 3 1, 52, 0, 0, 0, 0), x_0, x_0, (.goto (-48), 55, 4, 0, 0, 0), x_0, x_0, (.iload_n 2, 56, 0, 0, 0, 0), (.ireturn, 57, 0, 0, 0, 0)])
def mX9_back : XM := (yX9_back, cX9_back, 3, (some (.int)), [(.iconst 1, 1, 0, 0, 0, 0), (.istore_n 2, 2, 0, 0, 0, 0), (.aload_n 0, 3, 0, 0, 0, 0), (.iload_n 1, 4, 0, 0, 0, 0), (.aload_n 0, 5, 0, 0, 0, 0), (.getfield 7, 8, 0, 0, 9, 948), x_0, x_0, (.iconst 1, 9, 0, 0, 0, 0), (.iaload, 10, 0, 0, 0, 0), (.iload_n 2, 11, 0, 0, 0, 0), (.iadd, 12, 0, 0, 0, 0), (.invokevirtual 169, 15, 179, 2, 9, 1166), x_0, x_0, (.aload_n 0, 16, 0, 0, 0, 0), (.iload_n 1, 17, 0, 0, 0, 0), (.invokevirtual 184, 20, 180, 1, 9, 1162), x_0, x_0, (.if_icmp .eq 9, 23, 29, 0, 0, 0), x_0, x_0, (.iinc 2 1, 26, 0, 0, 0, 0), x_0, x_0, (.goto (-24), 29, 2, 0, 0, 0), x_0, x_0, (.iload_n 2, 30, 0, 0, 0, 0), (.ireturn, 31, 0, 0, 0, 0)])
def mX9_fourBrights : XM := (yX9_fourBrights, cX9_fourBrights, 4, (some (.int)), [(.iconst 0, 1, 0, 0, 0, 0), (.istore_n 2, 2, 0, 0, 0, 0), (.iconst 0, 3, 0, 0, 0, 0), (.istore_n 3, 4, 0, 0, 0, 0), (.iload_n 3, 5, 0, 0, 0, 0), (.iconst 4, 6, 0, 0, 0, 0), (.if_icmp .ge 25, 9, 31, 0, 0, 0), x_0, x_0, (.iload_n 2, 10, 0, 0, 0, 0), (.aload_n 0, 11, 0, 0, 0, 0), (.iload_n 1, 12, 0, 0, 0, 0), (.aload_n 0, 13, 0, 0, 0, 0), (.getfield 7, 16, 0, 0, 9, 948), x_0, x_0, (.iconst 1, 17, 0, 0, 0, 0), (.iaload, 18, 0, 0, 0, 0), (.iload_n 3, 19, 0, 0, 0, 0), (.iadd, 20, 0, 0, 0, 0), (.invokevirtual 175, 23, 182, 2, 9, 1176), x_0, x_0, (.iadd, 24, 0, 0, 0, 0), (.istore_n 2, 25, 0, 0, 0, 0), (.iinc 3 1, 28, 0, 0, 0, 0), x_0, x_0, (.goto (-24), 31, 4, 0, 0, 0), x_0, x_0, (.iload_n 2, 32, 0, 0, 0, 0), (.ireturn, 33, 0, 0, 0, 0)])
def mX9_offBest : XM := (yX9_offBest, cX9_offBest, 4, (some (.int)), [(.aload_n 0, 1, 0, 0, 0, 0), (.getfield 153, 4, 0, 1, 9, 949), x_0, x_0, (.iconst 2, 5, 0, 0, 0, 0), (.if_icmp .le 7, 8, 12, 0, 0, 0), x_0, x_0, (.iconst 2, 9, 0, 0, 0, 0), (.goto 4, 12, 13, 0, 0, 0), x_0, x_0, (.iconst 1, 13, 0, 0, 0, 0), (.istore_n 2, 14, 0, 0, 0, 0), (.iconst 0, 15, 0, 0, 0, 0), (.istore_n 3, 16, 0, 0, 0, 0), (.aload_n 0, 17, 0, 0, 0, 0), (.aload_n 0, 18, 0, 0, 0, 0), (.iload_n 1, 19, 0, 0, 0, 0), (.invokevirtual 184, 22, 180, 1, 9, 1162), x_0, x_0, (.aload_n 0, 23, 0, 0, 0, 0), (.getfield 7, 26, 0, 0, 9, 948), x_0, x_0, (.iconst 2, 27, 0, 0, 0, 0), (.iaload, 28, 0, 0, 0, 0), (.iload_n 3, 29, 0, 0, 0, 0), (.iadd, 30, 0, 0, 0, 0), (.invokevirtual 178, 33, 183, 2, 9, 1187), x_0, x_0, (.iload_n 2, 34, 0, 0, 0, 0), (.if_icmp .eq 30, 37, 64, 0, 0, 0), x_0, x_0, (.aload_n 0, 38, 0, 0, 0, 0), (.aload_n 0, 39, 0, 0, 0, 0), (.iload_n 1, 40, 0, 0, 0, 0), (.invokevirtual 184, 43, 180, 1, 9, 1162), x_0, x_0, (.aload_n 0, 44, 0, 0, 0, 0), (.getfield 7, 47, 0, 0, 9, 948), x_0, x_0, (.iconst 2, 48, 0, 0, 0, 0), (.iaload, 49, 0, 0, 0, 0), (.iload_n 3, 50, 0, 0, 0, 0), (.isub, 51, 0, 0, 0, 0), (.invokevirtual 178, 54, 183, 2, 9, 1187), x_0, x_0, (.iload_n 2, 55, 0, 0, 0, 0), (.if_icmp .eq 9, 58, 64, 0, 0, 0), x_0, x_0, (.iinc 3 1, 61, 0, 0, 0, 0), x_0, x_0, (.goto (-45), 64, 16, 0, 0, 0), x_0, x_0, (.iload_n 3, 65, 0, 0, 0, 0), (.ireturn, 66, 0, 0, 0, 0)])
def mX9_mark : XM := (yX9_mark, cX9_mark, 3, (some (.int)), [(.aload_n 0, 1, 0, 0, 0, 0), (.iload_n 1, 2, 0, 0, 0, 0), (.invokevirtual 187, 5, 176, 1, 9, 1154), x_0, x_0, (.ifCond .eq 15, 8, 20, 0, 0, 0), x_0, x_0, (.iload_n 2, 9, 0, 0, 0, 0), (.i2l, 10, 0, 0, 0, 0), (.lconst 1, 11, 0, 0, 0, 0), (.ldc2_w 75, 14, 5, 0, 0, 1055), x_0, x_0, (.invokestatic 77, 17, 149, 3, 9, 1056), x_0, x_0, (.ifCond .ne 5, 20, 22, 0, 0, 0), x_0, x_0, (.iconst (-1), 21, 0, 0, 0, 0), (.ireturn, 22, 0, 0, 0, 0), (.aload_n 0, 23, 0, 0, 0, 0), (.iload_n 1, 24, 0, 0, 0, 0), (.iload_n 2, 25, 0, 0, 0, 0), (.invokevirtual 193, 28, 188, 2, 9, 1195), x_0, x_0, (.ifCond .ne 9, 31, 37, 0, 0, 0), x_0, x_0, (.aload_n 0, 32, 0, 0, 0, 0), (.iconst 3, 33, 0, 0, 0, 0), (.invokevirtual 87, 36, 151, 1, 9, 1059), x_0, x_0, (.ireturn, 37, 0, 0, 0, 0), (.iload_n 2, 38, 0, 0, 0, 0), (.tableswitch 54 1 4 #[30, 36, 42, 48], 68, 0, 0, 0, 0), x_0, x_0, x_0, x_0, x_0, x_0, x_0, x_0, x_0, x_0, x_0, x_0, x_0, x_0, x_0, x_0, x_0, x_0, x_0, x_0, x_0, x_0, x_0, x_0, x_0, x_0, x_0, x_0, x_0, (.aload_n 0, 69, 0, 0, 0, 0), (.iload_n 1, 70, 0, 0, 0, 0), (.invokevirtual 197, 73, 189, 1, 9, 1199), x_0, x_0, (.ireturn, 74, 0, 0, 0, 0), (.aload_n 0, 75, 0, 0, 0, 0), (.iload_n 1, 76, 0, 0, 0, 0), (.invokevirtual 200, 79, 190, 1, 9, 1203), x_0, x_0, (.ireturn, 80, 0, 0, 0, 0), (.aload_n 0, 81, 0, 0, 0, 0), (.iload_n 1, 82, 0, 0, 0, 0), (.invokevirtual 203, 85, 191, 1, 9, 1207), x_0, x_0, (.ireturn, 86, 0, 0, 0, 0), (.aload_n 0, 87, 0, 0, 0, 0), (.iload_n 1, 88, 0, 0, 0, 0), (.invokevirtual 206, 91, 192, 1, 9, 1211), x_0, x_0, (.ireturn, 92, 0, 0, 0, 0), (.iconst 4, 93, 0, 0, 0, 0), (.aload_n 0, 94, 0, 0, 0, 0), (.getfield 7, 97, 0, 0, 9, 948), x_0, x_0, (.iconst 1, 98, 0, 0, 0, 0), (.iaload, 99, 0, 0, 0, 0), (.iconst 4, 100, 0, 0, 0, 0), (.irem, 101, 0, 0, 0, 0), (.isub, 102, 0, 0, 0, 0), (.iconst 4, 103, 0, 0, 0, 0), (.irem, 104, 0, 0, 0, 0), (.ireturn, 105, 0, 0, 0, 0)])
def mX9_keepPast : XM := (yX9_keepPast, cX9_keepPast, 2, none, [(.iconst 0, 1, 0, 0, 0, 0), (.istore_n 1, 2, 0, 0, 0, 0), (.iload_n 1, 3, 0, 0, 0, 0), (.iconst 3, 4, 0, 0, 0, 0), (.if_icmp .ge 34, 7, 38, 0, 0, 0), x_0, x_0, (.aload_n 0, 8, 0, 0, 0, 0), (.getfield 7, 11, 0, 0, 9, 948), x_0, x_0, (.iconst 4, 12, 0, 0, 0, 0), (.iconst 3, 13, 0, 0, 0, 0), (.aload_n 0, 14, 0, 0, 0, 0), (.getfield 7, 17, 0, 0, 9, 948), x_0, x_0, (.iconst 0, 18, 0, 0, 0, 0), (.iaload, 19, 0, 0, 0, 0), (.imul, 20, 0, 0, 0, 0), (.iadd, 21, 0, 0, 0, 0), (.iload_n 1, 22, 0, 0, 0, 0), (.iadd, 23, 0, 0, 0, 0), (.aload_n 0, 24, 0, 0, 0, 0), (.getfield 7, 27, 0, 0, 9, 948), x_0, x_0, (.iconst 1, 28, 0, 0, 0, 0), (.iload_n 1, 29, 0, 0, 0, 0), (.iadd, 30, 0, 0, 0, 0), (.iaload, 31, 0, 0, 0, 0), (.iastore, 32, 0, 0, 0, 0), (.iinc 1 1, 35, 0, 0, 0, 0), x_0, x_0, (.goto (-33), 38, 2, 0, 0, 0), x_0, x_0, (.aload_n 0, 39, 0, 0, 0, 0), (.getfield 7, 42, 0, 0, 9, 948), x_0, x_0, (.iconst 0, 43, 0, 0, 0, 0), (.dup2, 44, 0, 0, 0, 0), (.iaload, 45, 0, 0, 0, 0), (.iconst 1, 46, 0, 0, 0, 0), (.iadd, 47, 0, 0, 0, 0), (.iastore, 48, 0, 0, 0, 0), (.return_, 49, 0, 0, 0, 0)])
def mX9_doMoment : XM := (yX9_doMoment, cX9_doMoment, 2, (some (.int)), [(.aload_n 0, 1, 0, 0, 0, 0), (.invokevirtual 209, 4, 185, 0, 9, 1223), x_0, x_0, (.istore_n 1, 5, 0, 0, 0, 0), (.aload_n 0, 6, 0, 0, 0, 0), (.invokevirtual 212, 9, 194, 0, 9, 1227), x_0, x_0, (.aload_n 0, 10, 0, 0, 0, 0), (.getfield 7, 13, 0, 0, 9, 948), x_0, x_0, (.iconst 1, 14, 0, 0, 0, 0), (.dup2, 15, 0, 0, 0, 0), (.iaload, 16, 0, 0, 0, 0), (.iconst 1, 17, 0, 0, 0, 0), (.iadd, 18, 0, 0, 0, 0), (.iastore, 19, 0, 0, 0, 0), (.iload_n 1, 20, 0, 0, 0, 0), (.ireturn, 21, 0, 0, 0, 0)])
def mX9_moment : XM := (yX9_moment, cX9_moment, 1, (some (.int)), [(.aload_n 0, 1, 0, 0, 0, 0), (.getfield 159, 4, 0, 3, 9, 951), x_0, x_0, (.ifCond .ne 6, 7, 10, 0, 0, 0), x_0, x_0, (.bipush (-4), 9, 0, 0, 0, 0), x_0, (.ireturn, 10, 0, 0, 0, 0), (.aload_n 0, 11, 0, 0, 0, 0), (.getfield 7, 14, 0, 0, 9, 948), x_0, x_0, (.iconst 0, 15, 0, 0, 0, 0), (.iaload, 16, 0, 0, 0, 0), (.bipush 40, 18, 0, 0, 0, 0), x_0, (.if_icmp .ne 8, 21, 26, 0, 0, 0), x_0, x_0, (.bipush (-2), 23, 0, 0, 0, 0), x_0, (.goto 7, 26, 30, 0, 0, 0), x_0, x_0, (.aload_n 0, 27, 0, 0, 0, 0), (.invokevirtual 215, 30, 195, 0, 9, 1219), x_0, x_0, (.ireturn, 31, 0, 0, 0, 0)])
def mX9_effortFrom : XM := (yX9_effortFrom, cX9_effortFrom, 6, (some (.int)), [(.iload_n 2, 1, 0, 0, 0, 0), (.ifCond .ge 8, 4, 9, 0, 0, 0), x_0, x_0, (.iload_n 2, 5, 0, 0, 0, 0), (.ineg, 6, 0, 0, 0, 0), (.goto 4, 9, 10, 0, 0, 0), x_0, x_0, (.iload_n 2, 10, 0, 0, 0, 0), (.istore_n 3, 11, 0, 0, 0, 0), (.iload_n 3, 12, 0, 0, 0, 0), (.istore 4, 14, 0, 0, 0, 0), x_0, (.iconst 1, 15, 0, 0, 0, 0), (.istore 5, 17, 0, 0, 0, 0), x_0, (.iload 5, 19, 0, 0, 0, 0), x_0, (.iload_n 3, 20, 0, 0, 0, 0), (.if_icmp .gt 44, 23, 64, 0, 0, 0), x_0, x_0, (.iload 4, 25, 0, 0, 0, 0), x_0, (.iload_n 2, 26, 0, 0, 0, 0), (.ifCond .ge 10, 29, 36, 0, 0, 0), x_0, x_0, (.iload_n 1, 30, 0, 0, 0, 0), (.iload 5, 32, 0, 0, 0, 0), x_0, (.isub, 33, 0, 0, 0, 0), (.goto 7, 36, 40, 0, 0, 0), x_0, x_0, (.iload_n 1, 37, 0, 0, 0, 0), (.iload 5, 39, 0, 0, 0, 0), x_0, (.iadd, 40, 0, 0, 0, 0), (.invokestatic 166, 43, 177, 1, 9, 1173), x_0, x_0, (.aload_n 0, 44, 0, 0, 0, 0), (.getfield 156, 47, 0, 2, 9, 950), x_0, x_0, (.if_icmp .ne 7, 50, 54, 0, 0, 0), x_0, x_0, (.iconst 4, 51, 0, 0, 0, 0), (.goto 4, 54, 55, 0, 0, 0), x_0, x_0, (.iconst 0, 55, 0, 0, 0, 0), (.iadd, 56, 0, 0, 0, 0), (.istore 4, 58, 0, 0, 0, 0), x_0, (.iinc 5 1, 61, 0, 0, 0, 0), x_0, x_0, (.goto (-44), 64, 17, 0, 0, 0), x_0, x_0, (.iload 4, 66, 0, 0, 0, 0), x_0, (.ireturn, 67, 0, 0, 0, 0)])
def mX9_doTurn : XM := (yX9_doTurn, cX9_doTurn, 3, (some (.int)), [(.aload_n 0, 1, 0, 0, 0, 0), (.aload_n 0, 2, 0, 0, 0, 0), (.getfield 7, 5, 0, 0, 9, 948), x_0, x_0, (.iconst 2, 6, 0, 0, 0, 0), (.iaload, 7, 0, 0, 0, 0), (.iload_n 1, 8, 0, 0, 0, 0), (.invokevirtual 218, 11, 197, 2, 9, 1241), x_0, x_0, (.istore_n 2, 12, 0, 0, 0, 0), (.aload_n 0, 13, 0, 0, 0, 0), (.invokevirtual 212, 16, 194, 0, 9, 1227), x_0, x_0, (.aload_n 0, 17, 0, 0, 0, 0), (.getfield 7, 20, 0, 0, 9, 948), x_0, x_0, (.iconst 2, 21, 0, 0, 0, 0), (.aload_n 0, 22, 0, 0, 0, 0), (.getfield 7, 25, 0, 0, 9, 948), x_0, x_0, (.iconst 2, 26, 0, 0, 0, 0), (.iaload, 27, 0, 0, 0, 0), (.iload_n 1, 28, 0, 0, 0, 0), (.iadd, 29, 0, 0, 0, 0), (.invokestatic 166, 32, 177, 1, 9, 1173), x_0, x_0, (.iastore, 33, 0, 0, 0, 0), (.aload_n 0, 34, 0, 0, 0, 0), (.getfield 7, 37, 0, 0, 9, 948), x_0, x_0, (.iconst 3, 38, 0, 0, 0, 0), (.dup2, 39, 0, 0, 0, 0), (.iaload, 40, 0, 0, 0, 0), (.iload_n 2, 41, 0, 0, 0, 0), (.iadd, 42, 0, 0, 0, 0), (.iastore, 43, 0, 0, 0, 0), (.iload_n 2, 44, 0, 0, 0, 0), (.ireturn, 45, 0, 0, 0, 0)])
def mX9_turn : XM := (yX9_turn, cX9_turn, 2, (some (.int)), [(.iload_n 1, 1, 0, 0, 0, 0), (.i2l, 2, 0, 0, 0, 0), (.ldc2_w 221, 5, 18446744073709551610, 0, 0, 1235), x_0, x_0, (.ldc2_w 223, 8, 6, 0, 0, 1236), x_0, x_0, (.invokestatic 77, 11, 149, 3, 9, 1056), x_0, x_0, (.ifCond .eq 7, 14, 18, 0, 0, 0), x_0, x_0, (.iload_n 1, 15, 0, 0, 0, 0), (.ifCond .ne 5, 18, 20, 0, 0, 0), x_0, x_0, (.iconst (-1), 19, 0, 0, 0, 0), (.ireturn, 20, 0, 0, 0, 0), (.aload_n 0, 21, 0, 0, 0, 0), (.getfield 159, 24, 0, 3, 9, 951), x_0, x_0, (.ifCond .ne 6, 27, 30, 0, 0, 0), x_0, x_0, (.bipush (-4), 29, 0, 0, 0, 0), x_0, (.ireturn, 30, 0, 0, 0, 0), (.aload_n 0, 31, 0, 0, 0, 0), (.getfield 7, 34, 0, 0, 9, 948), x_0, x_0, (.iconst 0, 35, 0, 0, 0, 0), (.iaload, 36, 0, 0, 0, 0), (.bipush 40, 38, 0, 0, 0, 0), x_0, (.if_icmp .ne 8, 41, 46, 0, 0, 0), x_0, x_0, (.bipush (-2), 43, 0, 0, 0, 0), x_0, (.goto 8, 46, 51, 0, 0, 0), x_0, x_0, (.aload_n 0, 47, 0, 0, 0, 0), (.iload_n 1, 48, 0, 0, 0, 0), (.invokevirtual 225, 51, 198, 1, 9, 1237), x_0, x_0, (.ireturn, 52, 0, 0, 0, 0)])
def mX9_undo : XM := (yX9_undo, cX9_undo, 4, (some (.int)), [(.iload_n 1, 1, 0, 0, 0, 0), (.i2l, 2, 0, 0, 0, 0), (.lconst 0, 3, 0, 0, 0, 0), (.aload_n 0, 4, 0, 0, 0, 0), (.getfield 7, 7, 0, 0, 9, 948), x_0, x_0, (.iconst 0, 8, 0, 0, 0, 0), (.iaload, 9, 0, 0, 0, 0), (.i2l, 10, 0, 0, 0, 0), (.invokestatic 77, 13, 149, 3, 9, 1056), x_0, x_0, (.ifCond .ne 5, 16, 18, 0, 0, 0), x_0, x_0, (.iconst (-1), 17, 0, 0, 0, 0), (.ireturn, 18, 0, 0, 0, 0), (.aload_n 0, 19, 0, 0, 0, 0), (.getfield 7, 22, 0, 0, 9, 948), x_0, x_0, (.iconst 0, 23, 0, 0, 0, 0), (.iaload, 24, 0, 0, 0, 0), (.iload_n 1, 25, 0, 0, 0, 0), (.isub, 26, 0, 0, 0, 0), (.istore_n 2, 27, 0, 0, 0, 0), (.iconst 0, 28, 0, 0, 0, 0), (.istore_n 3, 29, 0, 0, 0, 0), (.iload_n 3, 30, 0, 0, 0, 0), (.iconst 3, 31, 0, 0, 0, 0), (.if_icmp .ge 33, 34, 64, 0, 0, 0), x_0, x_0, (.iload_n 2, 35, 0, 0, 0, 0), (.ifCond .le 29, 38, 64, 0, 0, 0), x_0, x_0, (.aload_n 0, 39, 0, 0, 0, 0), (.getfield 7, 42, 0, 0, 9, 948), x_0, x_0, (.iconst 1, 43, 0, 0, 0, 0), (.iload_n 3, 44, 0, 0, 0, 0), (.iadd, 45, 0, 0, 0, 0), (.aload_n 0, 46, 0, 0, 0, 0), (.getfield 7, 49, 0, 0, 9, 948), x_0, x_0, (.iconst 4, 50, 0, 0, 0, 0), (.iconst 3, 51, 0, 0, 0, 0), (.iload_n 1, 52, 0, 0, 0, 0), (.imul, 53, 0, 0, 0, 0), (.iadd, 54, 0, 0, 0, 0), (.iload_n 3, 55, 0, 0, 0, 0), (.iadd, 56, 0, 0, 0, 0), (.iaload, 57, 0, 0, 0, 0), (.iastore, 58, 0, 0, 0, 0), (.iinc 3 1, 61, 0, 0, 0, 0), x_0, x_0, (.goto (-32), 64, 29, 0, 0, 0), x_0, x_0, (.aload_n 0, 65, 0, 0, 0, 0), (.getfield 7, 68, 0, 0, 9, 948), x_0, x_0, (.iconst 0, 69, 0, 0, 0, 0), (.iload_n 1, 70, 0, 0, 0, 0), (.iastore, 71, 0, 0, 0, 0), (.iload_n 2, 72, 0, 0, 0, 0), (.ireturn, 73, 0, 0, 0, 0)])
def mX9_copyDome : XM := (yX9_copyDome, cX9_copyDome, 4, none, [(.iconst 0, 1, 0, 0, 0, 0), (.istore_n 3, 2, 0, 0, 0, 0), (.iload_n 3, 3, 0, 0, 0, 0), (.bipush 124, 5, 0, 0, 0, 0), x_0, (.if_icmp .ge 25, 8, 30, 0, 0, 0), x_0, x_0, (.aload_n 0, 9, 0, 0, 0, 0), (.getfield 7, 12, 0, 0, 9, 948), x_0, x_0, (.iload_n 2, 13, 0, 0, 0, 0), (.iload_n 3, 14, 0, 0, 0, 0), (.iadd, 15, 0, 0, 0, 0), (.aload_n 0, 16, 0, 0, 0, 0), (.getfield 7, 19, 0, 0, 9, 948), x_0, x_0, (.iload_n 1, 20, 0, 0, 0, 0), (.iload_n 3, 21, 0, 0, 0, 0), (.iadd, 22, 0, 0, 0, 0), (.iaload, 23, 0, 0, 0, 0), (.iastore, 24, 0, 0, 0, 0), (.iinc 3 1, 27, 0, 0, 0, 0), x_0, x_0, (.goto (-25), 30, 2, 0, 0, 0), x_0, x_0, (.return_, 31, 0, 0, 0, 0)])
def mX9_keep : XM := (yX9_keep, cX9_keep, 2, (some (.int)), [(.iload_n 1, 1, 0, 0, 0, 0), (.i2l, 2, 0, 0, 0, 0), (.lconst 0, 3, 0, 0, 0, 0), (.ldc2_w 228, 6, 2, 0, 0, 1253), x_0, x_0, (.invokestatic 77, 9, 149, 3, 9, 1056), x_0, x_0, (.ifCond .ne 5, 12, 14, 0, 0, 0), x_0, x_0, (.iconst (-1), 13, 0, 0, 0, 0), (.ireturn, 14, 0, 0, 0, 0), (.aload_n 0, 15, 0, 0, 0, 0), (.getfield 159, 18, 0, 3, 9, 951), x_0, x_0, (.ifCond .ne 6, 21, 24, 0, 0, 0), x_0, x_0, (.bipush (-4), 23, 0, 0, 0, 0), x_0, (.ireturn, 24, 0, 0, 0, 0), (.aload_n 0, 25, 0, 0, 0, 0), (.iconst 0, 26, 0, 0, 0, 0), (.bipush 124, 28, 0, 0, 0, 0), x_0, (.iconst 1, 29, 0, 0, 0, 0), (.iload_n 1, 30, 0, 0, 0, 0), (.iadd, 31, 0, 0, 0, 0), (.imul, 32, 0, 0, 0, 0), (.invokevirtual 230, 35, 201, 2, 9, 1254), x_0, x_0, (.aload_n 0, 36, 0, 0, 0, 0), (.getfield 7, 39, 0, 0, 9, 948), x_0, x_0, (.iconst 0, 40, 0, 0, 0, 0), (.iaload, 41, 0, 0, 0, 0), (.ireturn, 42, 0, 0, 0, 0)])
def mX9_on : XM := (yX9_on, cX9_on, 2, (some (.int)), [(.iload_n 1, 1, 0, 0, 0, 0), (.i2l, 2, 0, 0, 0, 0), (.lconst 0, 3, 0, 0, 0, 0), (.ldc2_w 228, 6, 2, 0, 0, 1253), x_0, x_0, (.invokestatic 77, 9, 149, 3, 9, 1056), x_0, x_0, (.ifCond .ne 5, 12, 14, 0, 0, 0), x_0, x_0, (.iconst (-1), 13, 0, 0, 0, 0), (.ireturn, 14, 0, 0, 0, 0), (.aload_n 0, 15, 0, 0, 0, 0), (.getfield 7, 18, 0, 0, 9, 948), x_0, x_0, (.bipush 124, 20, 0, 0, 0, 0), x_0, (.iconst 1, 21, 0, 0, 0, 0), (.iload_n 1, 22, 0, 0, 0, 0), (.iadd, 23, 0, 0, 0, 0), (.imul, 24, 0, 0, 0, 0), (.iconst 0, 25, 0, 0, 0, 0), (.iadd, 26, 0, 0, 0, 0), (.iaload, 27, 0, 0, 0, 0), (.ifCond .ge 9, 30, 36, 0, 0, 0), x_0, x_0, (.aload_n 0, 31, 0, 0, 0, 0), (.iconst 1, 32, 0, 0, 0, 0), (.invokevirtual 87, 35, 151, 1, 9, 1059), x_0, x_0, (.ireturn, 36, 0, 0, 0, 0), (.aload_n 0, 37, 0, 0, 0, 0), (.bipush 124, 39, 0, 0, 0, 0), x_0, (.iconst 1, 40, 0, 0, 0, 0), (.iload_n 1, 41, 0, 0, 0, 0), (.iadd, 42, 0, 0, 0, 0), (.imul, 43, 0, 0, 0, 0), (.iconst 0, 44, 0, 0, 0, 0), (.invokevirtual 230, 47, 201, 2, 9, 1254), x_0, x_0, (.aload_n 0, 48, 0, 0, 0, 0), (.getfield 7, 51, 0, 0, 9, 948), x_0, x_0, (.iconst 0, 52, 0, 0, 0, 0), (.iaload, 53, 0, 0, 0, 0), (.ireturn, 54, 0, 0, 0, 0)])
def mX9_isAhead : XM := (yX9_isAhead, cX9_isAhead, 1, (some (.boolean)), [(.iload_n 0, 1, 0, 0, 0, 0), (.i2l, 2, 0, 0, 0, 0), (.lconst 0, 3, 0, 0, 0, 0), (.ldc2_w 233, 6, 99, 0, 0, 1269), x_0, x_0, (.invokestatic 77, 9, 149, 3, 9, 1056), x_0, x_0, (.ireturn, 10, 0, 0, 0, 0)])
def mX9_place : XM := (yX9_place, cX9_place, 3, (some (.int)), [(.aload_n 0, 1, 0, 0, 0, 0), (.iload_n 1, 2, 0, 0, 0, 0), (.invokevirtual 187, 5, 176, 1, 9, 1154), x_0, x_0, (.ifCond .eq 10, 8, 15, 0, 0, 0), x_0, x_0, (.iload_n 2, 9, 0, 0, 0, 0), (.invokestatic 235, 12, 204, 1, 9, 1266), x_0, x_0, (.ifCond .ne 5, 15, 17, 0, 0, 0), x_0, x_0, (.iconst (-1), 16, 0, 0, 0, 0), (.ireturn, 17, 0, 0, 0, 0), (.aload_n 0, 18, 0, 0, 0, 0), (.aload_n 0, 19, 0, 0, 0, 0), (.iload_n 1, 20, 0, 0, 0, 0), (.aload_n 0, 21, 0, 0, 0, 0), (.getfield 7, 24, 0, 0, 9, 948), x_0, x_0, (.iconst 1, 25, 0, 0, 0, 0), (.iaload, 26, 0, 0, 0, 0), (.iload_n 2, 27, 0, 0, 0, 0), (.iadd, 28, 0, 0, 0, 0), (.invokevirtual 175, 31, 182, 2, 9, 1176), x_0, x_0, (.putfield 72, 34, 0, 12, 9, 960), x_0, x_0, (.aload_n 0, 35, 0, 0, 0, 0), (.iload_n 1, 36, 0, 0, 0, 0), (.aload_n 0, 37, 0, 0, 0, 0), (.getfield 7, 40, 0, 0, 9, 948), x_0, x_0, (.iconst 1, 41, 0, 0, 0, 0), (.iaload, 42, 0, 0, 0, 0), (.iload_n 2, 43, 0, 0, 0, 0), (.iadd, 44, 0, 0, 0, 0), (.invokevirtual 169, 47, 179, 2, 9, 1166), x_0, x_0, (.ireturn, 48, 0, 0, 0, 0)])
def mX9_gets : XM := (yX9_gets, cX9_gets, 3, (some (.int)), [(.aload_n 0, 1, 0, 0, 0, 0), (.iload_n 1, 2, 0, 0, 0, 0), (.invokevirtual 187, 5, 176, 1, 9, 1154), x_0, x_0, (.ifCond .eq 32, 8, 37, 0, 0, 0), x_0, x_0, (.iload_n 2, 9, 0, 0, 0, 0), (.invokestatic 235, 12, 204, 1, 9, 1266), x_0, x_0, (.ifCond .eq 25, 15, 37, 0, 0, 0), x_0, x_0, (.aload_n 0, 16, 0, 0, 0, 0), (.iload_n 1, 17, 0, 0, 0, 0), (.aload_n 0, 18, 0, 0, 0, 0), (.getfield 7, 21, 0, 0, 9, 948), x_0, x_0, (.iconst 2, 22, 0, 0, 0, 0), (.iaload, 23, 0, 0, 0, 0), (.aload_n 0, 24, 0, 0, 0, 0), (.getfield 7, 27, 0, 0, 9, 948), x_0, x_0, (.iconst 1, 28, 0, 0, 0, 0), (.iaload, 29, 0, 0, 0, 0), (.iload_n 2, 30, 0, 0, 0, 0), (.iadd, 31, 0, 0, 0, 0), (.invokevirtual 181, 34, 184, 3, 9, 1183), x_0, x_0, (.goto 4, 37, 38, 0, 0, 0), x_0, x_0, (.iconst (-1), 38, 0, 0, 0, 0), (.ireturn, 39, 0, 0, 0, 0)])
def mX9_seen : XM := (yX9_seen, cX9_seen, 4, (some (.int)), [(.iload_n 1, 1, 0, 0, 0, 0), (.invokestatic 235, 4, 204, 1, 9, 1266), x_0, x_0, (.ifCond .ne 5, 7, 9, 0, 0, 0), x_0, x_0, (.iconst (-1), 8, 0, 0, 0, 0), (.ireturn, 9, 0, 0, 0, 0), (.iconst 0, 10, 0, 0, 0, 0), (.istore_n 2, 11, 0, 0, 0, 0), (.iconst 0, 12, 0, 0, 0, 0), (.istore_n 3, 13, 0, 0, 0, 0), (.iload_n 3, 14, 0, 0, 0, 0), (.aload_n 0, 15, 0, 0, 0, 0), (.getfield 159, 18, 0, 3, 9, 951), x_0, x_0, (.if_icmp .ge 41, 21, 59, 0, 0, 0), x_0, x_0, (.iload_n 2, 22, 0, 0, 0, 0), (.aload_n 0, 23, 0, 0, 0, 0), (.iload_n 3, 24, 0, 0, 0, 0), (.aload_n 0, 25, 0, 0, 0, 0), (.getfield 7, 28, 0, 0, 9, 948), x_0, x_0, (.iconst 2, 29, 0, 0, 0, 0), (.iaload, 30, 0, 0, 0, 0), (.aload_n 0, 31, 0, 0, 0, 0), (.getfield 7, 34, 0, 0, 9, 948), x_0, x_0, (.iconst 1, 35, 0, 0, 0, 0), (.iaload, 36, 0, 0, 0, 0), (.iload_n 1, 37, 0, 0, 0, 0), (.iadd, 38, 0, 0, 0, 0), (.invokevirtual 181, 41, 184, 3, 9, 1183), x_0, x_0, (.ifCond .le 9, 44, 50, 0, 0, 0), x_0, x_0, (.iconst 1, 45, 0, 0, 0, 0), (.iload_n 3, 46, 0, 0, 0, 0), (.ishl, 47, 0, 0, 0, 0), (.goto 4, 50, 51, 0, 0, 0), x_0, x_0, (.iconst 0, 51, 0, 0, 0, 0), (.ior, 52, 0, 0, 0, 0), (.istore_n 2, 53, 0, 0, 0, 0), (.iinc 3 1, 56, 0, 0, 0, 0), x_0, x_0, (.goto (-43), 59, 13, 0, 0, 0), x_0, x_0, (.iload_n 2, 60, 0, 0, 0, 0), (.ireturn, 61, 0, 0, 0, 0)])
def mX9_stays : XM := (yX9_stays, cX9_stays, 3, (some (.int)), [(.aload_n 0, 1, 0, 0, 0, 0), (.iload_n 1, 2, 0, 0, 0, 0), (.invokevirtual 187, 5, 176, 1, 9, 1154), x_0, x_0, (.ifCond .ne 5, 8, 10, 0, 0, 0), x_0, x_0, (.iconst (-1), 9, 0, 0, 0, 0), (.ireturn, 10, 0, 0, 0, 0), (.iconst 0, 11, 0, 0, 0, 0), (.istore_n 2, 12, 0, 0, 0, 0), (.iload_n 2, 13, 0, 0, 0, 0), (.bipush 100, 15, 0, 0, 0, 0), x_0, (.if_icmp .ge 31, 18, 46, 0, 0, 0), x_0, x_0, (.aload_n 0, 19, 0, 0, 0, 0), (.iload_n 1, 20, 0, 0, 0, 0), (.aload_n 0, 21, 0, 0, 0, 0), (.getfield 7, 24, 0, 0, 9, 948), x_0, x_0, (.iconst 2, 25, 0, 0, 0, 0), (.iaload, 26, 0, 0, 0, 0), (.aload_n 0, 27, 0, 0, 0, 0), (.getfield 7, 30, 0, 0, 9, 948), x_0, x_0, (.iconst 1, 31, 0, 0, 0, 0), (.iaload, 32, 0, 0, 0, 0), (.iload_n 2, 33, 0, 0, 0, 0), (.iadd, 34, 0, 0, 0, 0), (.invokevirtual 181, 37, 184, 3, 9, 1183), x_0, x_0, (.ifCond .le 9, 40, 46, 0, 0, 0), x_0, x_0, (.iinc 2 1, 43, 0, 0, 0, 0), x_0, x_0, (.goto (-31), 46, 12, 0, 0, 0), x_0, x_0, (.iload_n 2, 47, 0, 0, 0, 0), (.ireturn, 48, 0, 0, 0, 0)])
def mX9_over : XM := (yX9_over, cX9_over, 4, (some (.int)), [(.iconst 0, 1, 0, 0, 0, 0), (.istore_n 3, 2, 0, 0, 0, 0), (.iload_n 3, 3, 0, 0, 0, 0), (.bipush 100, 5, 0, 0, 0, 0), x_0, (.if_icmp .ge 30, 8, 35, 0, 0, 0), x_0, x_0, (.aload_n 0, 9, 0, 0, 0, 0), (.aload_n 0, 10, 0, 0, 0, 0), (.iload_n 1, 11, 0, 0, 0, 0), (.aload_n 0, 12, 0, 0, 0, 0), (.getfield 7, 15, 0, 0, 9, 948), x_0, x_0, (.iconst 1, 16, 0, 0, 0, 0), (.iaload, 17, 0, 0, 0, 0), (.iload_n 3, 18, 0, 0, 0, 0), (.iadd, 19, 0, 0, 0, 0), (.invokevirtual 169, 22, 179, 2, 9, 1166), x_0, x_0, (.iload_n 2, 23, 0, 0, 0, 0), (.invokevirtual 178, 26, 183, 2, 9, 1187), x_0, x_0, (.ifCond .le 9, 29, 35, 0, 0, 0), x_0, x_0, (.iinc 3 1, 32, 0, 0, 0, 0), x_0, x_0, (.goto (-30), 35, 2, 0, 0, 0), x_0, x_0, (.iload_n 3, 36, 0, 0, 0, 0), (.ireturn, 37, 0, 0, 0, 0)])
def mX9_ahead : XM := (yX9_ahead, cX9_ahead, 5, (some (.int)), [(.aload_n 0, 1, 0, 0, 0, 0), (.iload_n 1, 2, 0, 0, 0, 0), (.invokevirtual 187, 5, 176, 1, 9, 1154), x_0, x_0, (.ifCond .ne 5, 8, 10, 0, 0, 0), x_0, x_0, (.iconst (-1), 9, 0, 0, 0, 0), (.ireturn, 10, 0, 0, 0, 0), (.iconst 0, 11, 0, 0, 0, 0), (.istore_n 2, 12, 0, 0, 0, 0), (.aload_n 0, 13, 0, 0, 0, 0), (.aload_n 0, 14, 0, 0, 0, 0), (.iload_n 1, 15, 0, 0, 0, 0), (.iconst 0, 16, 0, 0, 0, 0), (.invokevirtual 238, 19, 209, 2, 9, 1286), x_0, x_0, (.putfield 72, 22, 0, 12, 9, 960), x_0, x_0, (.iconst 1, 23, 0, 0, 0, 0), (.istore_n 3, 24, 0, 0, 0, 0), (.iload_n 3, 25, 0, 0, 0, 0), (.bipush 24, 27, 0, 0, 0, 0), x_0, (.if_icmp .ge 54, 30, 81, 0, 0, 0), x_0, x_0, (.aload_n 0, 31, 0, 0, 0, 0), (.iload_n 1, 32, 0, 0, 0, 0), (.iload_n 3, 33, 0, 0, 0, 0), (.invokevirtual 238, 36, 209, 2, 9, 1286), x_0, x_0, (.istore 4, 38, 0, 0, 0, 0), x_0, (.iload 4, 40, 0, 0, 0, 0), x_0, (.aload_n 0, 41, 0, 0, 0, 0), (.getfield 72, 44, 0, 12, 9, 960), x_0, x_0, (.if_icmp .le 7, 47, 51, 0, 0, 0), x_0, x_0, (.iload_n 3, 48, 0, 0, 0, 0), (.goto 4, 51, 52, 0, 0, 0), x_0, x_0, (.iload_n 2, 52, 0, 0, 0, 0), (.istore_n 2, 53, 0, 0, 0, 0), (.aload_n 0, 54, 0, 0, 0, 0), (.iload 4, 56, 0, 0, 0, 0), x_0, (.aload_n 0, 57, 0, 0, 0, 0), (.getfield 72, 60, 0, 12, 9, 960), x_0, x_0, (.if_icmp .le 8, 63, 68, 0, 0, 0), x_0, x_0, (.iload 4, 65, 0, 0, 0, 0), x_0, (.goto 7, 68, 72, 0, 0, 0), x_0, x_0, (.aload_n 0, 69, 0, 0, 0, 0), (.getfield 72, 72, 0, 12, 9, 960), x_0, x_0, (.putfield 72, 75, 0, 12, 9, 960), x_0, x_0, (.iinc 3 1, 78, 0, 0, 0, 0), x_0, x_0, (.goto (-54), 81, 24, 0, 0, 0), x_0, x_0, (.iload_n 2, 82, 0, 0, 0, 0), (.ireturn, 83, 0, 0, 0, 0)])
def mX9_effort : XM := (yX9_effort, cX9_effort, 2, (some (.int)), [(.iload_n 1, 1, 0, 0, 0, 0), (.i2l, 2, 0, 0, 0, 0), (.ldc2_w 221, 5, 18446744073709551610, 0, 0, 1235), x_0, x_0, (.ldc2_w 223, 8, 6, 0, 0, 1236), x_0, x_0, (.invokestatic 77, 11, 149, 3, 9, 1056), x_0, x_0, (.ifCond .eq 17, 14, 28, 0, 0, 0), x_0, x_0, (.aload_n 0, 15, 0, 0, 0, 0), (.aload_n 0, 16, 0, 0, 0, 0), (.getfield 7, 19, 0, 0, 9, 948), x_0, x_0, (.iconst 2, 20, 0, 0, 0, 0), (.iaload, 21, 0, 0, 0, 0), (.iload_n 1, 22, 0, 0, 0, 0), (.invokevirtual 218, 25, 197, 2, 9, 1241), x_0, x_0, (.goto 4, 28, 29, 0, 0, 0), x_0, x_0, (.iconst (-1), 29, 0, 0, 0, 0), (.ireturn, 30, 0, 0, 0, 0)])
def mX9_layEfforts : XM := (yX9_layEfforts, cX9_layEfforts, 2, none, [(.iconst 0, 1, 0, 0, 0, 0), (.istore_n 1, 2, 0, 0, 0, 0), (.iload_n 1, 3, 0, 0, 0, 0), (.sipush 312, 6, 0, 0, 0, 0), x_0, x_0, (.if_icmp .ge 30, 9, 36, 0, 0, 0), x_0, x_0, (.aload_n 0, 10, 0, 0, 0, 0), (.getfield 50, 13, 0, 25, 9, 973), x_0, x_0, (.iload_n 1, 14, 0, 0, 0, 0), (.aload_n 0, 15, 0, 0, 0, 0), (.iload_n 1, 16, 0, 0, 0, 0), (.bipush 13, 18, 0, 0, 0, 0), x_0, (.idiv, 19, 0, 0, 0, 0), (.iload_n 1, 20, 0, 0, 0, 0), (.bipush 13, 22, 0, 0, 0, 0), x_0, (.irem, 23, 0, 0, 0, 0), (.bipush 6, 25, 0, 0, 0, 0), x_0, (.isub, 26, 0, 0, 0, 0), (.invokevirtual 218, 29, 197, 2, 9, 1241), x_0, x_0, (.iastore, 30, 0, 0, 0, 0), (.iinc 1 1, 33, 0, 0, 0, 0), x_0, x_0, (.goto (-31), 36, 2, 0, 0, 0), x_0, x_0, (.return_, 37, 0, 0, 0, 0)])
def mX9_costOf : XM := (yX9_costOf, cX9_costOf, 4, (some (.int)), [(.iload_n 3, 1, 0, 0, 0, 0), (.ifCond .eq 15, 4, 16, 0, 0, 0), x_0, x_0, (.iload_n 2, 5, 0, 0, 0, 0), (.ifCond .ne 7, 8, 12, 0, 0, 0), x_0, x_0, (.iconst 0, 9, 0, 0, 0, 0), (.goto 21, 12, 30, 0, 0, 0), x_0, x_0, (.iconst 1, 13, 0, 0, 0, 0), (.goto 17, 16, 30, 0, 0, 0), x_0, x_0, (.aload_n 0, 17, 0, 0, 0, 0), (.getfield 50, 20, 0, 25, 9, 973), x_0, x_0, (.bipush 13, 22, 0, 0, 0, 0), x_0, (.iload_n 1, 23, 0, 0, 0, 0), (.imul, 24, 0, 0, 0, 0), (.iload_n 2, 25, 0, 0, 0, 0), (.iadd, 26, 0, 0, 0, 0), (.bipush 6, 28, 0, 0, 0, 0), x_0, (.iadd, 29, 0, 0, 0, 0), (.iaload, 30, 0, 0, 0, 0), (.ireturn, 31, 0, 0, 0, 0)])
def mX9_onBy : XM := (yX9_onBy, cX9_onBy, 7, (some (.int)), [(.iload_n 3, 1, 0, 0, 0, 0), (.iload 4, 3, 0, 0, 0, 0), x_0, (.iadd, 4, 0, 0, 0, 0), (.invokestatic 166, 7, 177, 1, 9, 1173), x_0, x_0, (.istore 6, 9, 0, 0, 0, 0), x_0, (.aload_n 0, 10, 0, 0, 0, 0), (.iload_n 1, 11, 0, 0, 0, 0), (.iload 6, 13, 0, 0, 0, 0), x_0, (.aload_n 0, 14, 0, 0, 0, 0), (.getfield 7, 17, 0, 0, 9, 948), x_0, x_0, (.iconst 1, 18, 0, 0, 0, 0), (.iaload, 19, 0, 0, 0, 0), (.iload_n 2, 20, 0, 0, 0, 0), (.iadd, 21, 0, 0, 0, 0), (.invokevirtual 181, 24, 184, 3, 9, 1183), x_0, x_0, (.ifCond .le 30, 27, 54, 0, 0, 0), x_0, x_0, (.aload_n 0, 28, 0, 0, 0, 0), (.iload_n 3, 29, 0, 0, 0, 0), (.iload 4, 31, 0, 0, 0, 0), x_0, (.iload 5, 33, 0, 0, 0, 0), x_0, (.invokevirtual 241, 36, 213, 3, 9, 1312), x_0, x_0, (.aload_n 0, 37, 0, 0, 0, 0), (.getfield 47, 40, 0, 24, 9, 972), x_0, x_0, (.bipush 24, 42, 0, 0, 0, 0), x_0, (.iload_n 2, 43, 0, 0, 0, 0), (.iconst 1, 44, 0, 0, 0, 0), (.iadd, 45, 0, 0, 0, 0), (.imul, 46, 0, 0, 0, 0), (.iload 6, 48, 0, 0, 0, 0), x_0, (.iadd, 49, 0, 0, 0, 0), (.iaload, 50, 0, 0, 0, 0), (.iadd, 51, 0, 0, 0, 0), (.goto 5, 54, 56, 0, 0, 0), x_0, x_0, (.ldc 245, 56, 100000, 0, 0, 1307), x_0, (.ireturn, 57, 0, 0, 0, 0)])
def mX9_layLeast : XM := (yX9_layLeast, cX9_layLeast, 8, none, [(.aload_n 0, 1, 0, 0, 0, 0), (.invokevirtual 246, 4, 212, 0, 9, 1303), x_0, x_0, (.iconst 0, 5, 0, 0, 0, 0), (.istore 4, 7, 0, 0, 0, 0), x_0, (.iload 4, 9, 0, 0, 0, 0), x_0, (.bipush 24, 11, 0, 0, 0, 0), x_0, (.if_icmp .ge 22, 14, 33, 0, 0, 0), x_0, x_0, (.aload_n 0, 15, 0, 0, 0, 0), (.getfield 47, 18, 0, 24, 9, 972), x_0, x_0, (.bipush 24, 20, 0, 0, 0, 0), x_0, (.iload_n 2, 21, 0, 0, 0, 0), (.imul, 22, 0, 0, 0, 0), (.iload 4, 24, 0, 0, 0, 0), x_0, (.iadd, 25, 0, 0, 0, 0), (.iconst 0, 26, 0, 0, 0, 0), (.iastore, 27, 0, 0, 0, 0), (.iinc 4 1, 30, 0, 0, 0, 0), x_0, x_0, (.goto (-23), 33, 7, 0, 0, 0), x_0, x_0, (.iload_n 2, 34, 0, 0, 0, 0), (.iconst 1, 35, 0, 0, 0, 0), (.isub, 36, 0, 0, 0, 0), (.istore 4, 38, 0, 0, 0, 0), x_0, (.iload 4, 40, 0, 0, 0, 0), x_0, (.ifCond .lt 120, 43, 160, 0, 0, 0), x_0, x_0, (.iconst 0, 44, 0, 0, 0, 0), (.istore 5, 46, 0, 0, 0, 0), x_0, (.iload 5, 48, 0, 0, 0, 0), x_0, (.bipush 24, 50, 0, 0, 0, 0), x_0, (.if_icmp .ge 104, 53, 154, 0, 0, 0), x_0, x_0, (.aload_n 0, 54, 0, 0, 0, 0), (.getfield 47, 57, 0, 24, 9, 972), x_0, x_0, (.bipush 24, 59, 0, 0, 0, 0), x_0, (.iload 4, 61, 0, 0, 0, 0), x_0, (.imul, 62, 0, 0, 0, 0), (.iload 5, 64, 0, 0, 0, 0), x_0, (.iadd, 65, 0, 0, 0, 0), (.ldc 245, 67, 100000, 0, 0, 1307), x_0, (.iastore, 68, 0, 0, 0, 0), (.bipush (-6), 70, 0, 0, 0, 0), x_0, (.istore 6, 72, 0, 0, 0, 0), x_0, (.iload 6, 74, 0, 0, 0, 0), x_0, (.bipush 7, 76, 0, 0, 0, 0), x_0, (.if_icmp .ge 72, 79, 148, 0, 0, 0), x_0, x_0, (.aload_n 0, 80, 0, 0, 0, 0), (.iload_n 1, 81, 0, 0, 0, 0), (.iload 4, 83, 0, 0, 0, 0), x_0, (.iload 5, 85, 0, 0, 0, 0), x_0, (.iload 6, 87, 0, 0, 0, 0), x_0, (.iload_n 3, 88, 0, 0, 0, 0), (.invokevirtual 249, 91, 214, 5, 9, 1308), x_0, x_0, (.istore 7, 93, 0, 0, 0, 0), x_0, (.aload_n 0, 94, 0, 0, 0, 0), (.getfield 47, 97, 0, 24, 9, 972), x_0, x_0, (.bipush 24, 99, 0, 0, 0, 0), x_0, (.iload 4, 101, 0, 0, 0, 0), x_0, (.imul, 102, 0, 0, 0, 0), (.iload 5, 104, 0, 0, 0, 0), x_0, (.iadd, 105, 0, 0, 0, 0), (.iload 7, 107, 0, 0, 0, 0), x_0, (.aload_n 0, 108, 0, 0, 0, 0), (.getfield 47, 111, 0, 24, 9, 972), x_0, x_0, (.bipush 24, 113, 0, 0, 0, 0), x_0, (.iload 4, 115, 0, 0, 0, 0), x_0, (.imul, 116, 0, 0, 0, 0), (.iload 5, 118, 0, 0, 0, 0), x_0, (.iadd, 119, 0, 0, 0, 0), (.iaload, 120, 0, 0, 0, 0), (.if_icmp .ge 8, 123, 128, 0, 0, 0), x_0, x_0, (.iload 7, 125, 0, 0, 0, 0), x_0, (.goto 16, 128, 141, 0, 0, 0), x_0, x_0, (.aload_n 0, 129, 0, 0, 0, 0), (.getfield 47, 132, 0, 24, 9, 972), x_0, x_0, (.bipush 24, 134, 0, 0, 0, 0), x_0, (.iload 4, 136, 0, 0, 0, 0), x_0, (.imul, 137, 0, 0, 0, 0), (.iload 5, 139, 0, 0, 0, 0), x_0, (.iadd, 140, 0, 0, 0, 0), (.iaload, 141, 0, 0, 0, 0), (.iastore, 142, 0, 0, 0, 0), (.iinc 6 1, 145, 0, 0, 0, 0), x_0, x_0, (.goto (-73), 148, 72, 0, 0, 0), x_0, x_0, (.iinc 5 1, 151, 0, 0, 0, 0), x_0, x_0, (.goto (-105), 154, 46, 0, 0, 0), x_0, x_0, (.iinc 4 (-1), 157, 0, 0, 0, 0), x_0, x_0, (.goto (-119), 160, 38, 0, 0, 0), x_0, x_0, (.return_, 161, 0, 0, 0, 0)])
def mX9_follow : XM := (yX9_follow, cX9_follow, 8, (some (.int)), [(.aload_n 0, 1, 0, 0, 0, 0), (.iload_n 1, 2, 0, 0, 0, 0), (.invokevirtual 187, 5, 176, 1, 9, 1154), x_0, x_0, (.ifCond .eq 22, 8, 27, 0, 0, 0), x_0, x_0, (.iload_n 2, 9, 0, 0, 0, 0), (.i2l, 10, 0, 0, 0, 0), (.lconst 1, 11, 0, 0, 0, 0), (.ldc2_w 253, 14, 8, 0, 0, 1298), x_0, x_0, (.invokestatic 77, 17, 149, 3, 9, 1056), x_0, x_0, (.ifCond .eq 10, 20, 27, 0, 0, 0), x_0, x_0, (.iload_n 3, 21, 0, 0, 0, 0), (.invokestatic 83, 24, 153, 1, 9, 1052), x_0, x_0, (.ifCond .ne 5, 27, 29, 0, 0, 0), x_0, x_0, (.iconst (-1), 28, 0, 0, 0, 0), (.ireturn, 29, 0, 0, 0, 0), (.aload_n 0, 30, 0, 0, 0, 0), (.iload_n 1, 31, 0, 0, 0, 0), (.iload_n 2, 32, 0, 0, 0, 0), (.iconst 0, 33, 0, 0, 0, 0), (.invokevirtual 255, 36, 215, 3, 9, 1299), x_0, x_0, (.aload_n 0, 37, 0, 0, 0, 0), (.getfield 7, 40, 0, 0, 9, 948), x_0, x_0, (.iconst 2, 41, 0, 0, 0, 0), (.iaload, 42, 0, 0, 0, 0), (.istore 4, 44, 0, 0, 0, 0), x_0, (.aload_n 0, 45, 0, 0, 0, 0), (.getfield 47, 48, 0, 24, 9, 972), x_0, x_0, (.iload 4, 50, 0, 0, 0, 0), x_0, (.iaload, 51, 0, 0, 0, 0), (.istore 5, 53, 0, 0, 0, 0), x_0, (.iload 5, 55, 0, 0, 0, 0), x_0, (.ldc 245, 57, 100000, 0, 0, 1307), x_0, (.if_icmp .lt 6, 60, 63, 0, 0, 0), x_0, x_0, (.bipush (-9), 62, 0, 0, 0, 0), x_0, (.ireturn, 63, 0, 0, 0, 0), (.aload_n 0, 64, 0, 0, 0, 0), (.iload_n 3, 65, 0, 0, 0, 0), (.iload_n 2, 66, 0, 0, 0, 0), (.invokevirtual 91, 69, 156, 2, 9, 1063), x_0, x_0, (.iconst 0, 70, 0, 0, 0, 0), (.istore 6, 72, 0, 0, 0, 0), x_0, (.iload 6, 74, 0, 0, 0, 0), x_0, (.iload_n 2, 75, 0, 0, 0, 0), (.if_icmp .ge 71, 78, 146, 0, 0, 0), x_0, x_0, (.bipush (-6), 80, 0, 0, 0, 0), x_0, (.istore 7, 82, 0, 0, 0, 0), x_0, (.aload_n 0, 83, 0, 0, 0, 0), (.iload_n 1, 84, 0, 0, 0, 0), (.iload 6, 86, 0, 0, 0, 0), x_0, (.iload 4, 88, 0, 0, 0, 0), x_0, (.iload 7, 90, 0, 0, 0, 0), x_0, (.iconst 0, 91, 0, 0, 0, 0), (.invokevirtual 249, 94, 214, 5, 9, 1308), x_0, x_0, (.aload_n 0, 95, 0, 0, 0, 0), (.getfield 47, 98, 0, 24, 9, 972), x_0, x_0, (.bipush 24, 100, 0, 0, 0, 0), x_0, (.iload 6, 102, 0, 0, 0, 0), x_0, (.imul, 103, 0, 0, 0, 0), (.iload 4, 105, 0, 0, 0, 0), x_0, (.iadd, 106, 0, 0, 0, 0), (.iaload, 107, 0, 0, 0, 0), (.if_icmp .eq 9, 110, 116, 0, 0, 0), x_0, x_0, (.iinc 7 1, 113, 0, 0, 0, 0), x_0, x_0, (.goto (-31), 116, 82, 0, 0, 0), x_0, x_0, (.aload_n 0, 117, 0, 0, 0, 0), (.getfield 28, 120, 0, 9, 9, 957), x_0, x_0, (.bipush 40, 122, 0, 0, 0, 0), x_0, (.iload_n 3, 123, 0, 0, 0, 0), (.imul, 124, 0, 0, 0, 0), (.iload 6, 126, 0, 0, 0, 0), x_0, (.iadd, 127, 0, 0, 0, 0), (.iload 7, 129, 0, 0, 0, 0), x_0, (.iastore, 130, 0, 0, 0, 0), (.iload 4, 132, 0, 0, 0, 0), x_0, (.iload 7, 134, 0, 0, 0, 0), x_0, (.iadd, 135, 0, 0, 0, 0), (.invokestatic 166, 138, 177, 1, 9, 1173), x_0, x_0, (.istore 4, 140, 0, 0, 0, 0), x_0, (.iinc 6 1, 143, 0, 0, 0, 0), x_0, x_0, (.goto (-71), 146, 72, 0, 0, 0), x_0, x_0, (.iload 5, 148, 0, 0, 0, 0), x_0, (.ireturn, 149, 0, 0, 0, 0)])
def mX9_turns : XM := (yX9_turns, cX9_turns, 3, (some (.int)), [(.aload_n 0, 1, 0, 0, 0, 0), (.iload_n 1, 2, 0, 0, 0, 0), (.invokevirtual 187, 5, 176, 1, 9, 1154), x_0, x_0, (.ifCond .eq 15, 8, 20, 0, 0, 0), x_0, x_0, (.iload_n 2, 9, 0, 0, 0, 0), (.i2l, 10, 0, 0, 0, 0), (.lconst 1, 11, 0, 0, 0, 0), (.ldc2_w 253, 14, 8, 0, 0, 1298), x_0, x_0, (.invokestatic 77, 17, 149, 3, 9, 1056), x_0, x_0, (.ifCond .ne 5, 20, 22, 0, 0, 0), x_0, x_0, (.iconst (-1), 21, 0, 0, 0, 0), (.ireturn, 22, 0, 0, 0, 0), (.aload_n 0, 23, 0, 0, 0, 0), (.iload_n 1, 24, 0, 0, 0, 0), (.iload_n 2, 25, 0, 0, 0, 0), (.iconst 1, 26, 0, 0, 0, 0), (.invokevirtual 255, 29, 215, 3, 9, 1299), x_0, x_0, (.aload_n 0, 30, 0, 0, 0, 0), (.getfield 47, 33, 0, 24, 9, 972), x_0, x_0, (.aload_n 0, 34, 0, 0, 0, 0), (.getfield 7, 37, 0, 0, 9, 948), x_0, x_0, (.iconst 2, 38, 0, 0, 0, 0), (.iaload, 39, 0, 0, 0, 0), (.iaload, 40, 0, 0, 0, 0), (.ldc 245, 42, 100000, 0, 0, 1307), x_0, (.if_icmp .lt 8, 45, 50, 0, 0, 0), x_0, x_0, (.bipush (-9), 47, 0, 0, 0, 0), x_0, (.goto 14, 50, 61, 0, 0, 0), x_0, x_0, (.aload_n 0, 51, 0, 0, 0, 0), (.getfield 47, 54, 0, 24, 9, 972), x_0, x_0, (.aload_n 0, 55, 0, 0, 0, 0), (.getfield 7, 58, 0, 0, 9, 948), x_0, x_0, (.iconst 2, 59, 0, 0, 0, 0), (.iaload, 60, 0, 0, 0, 0), (.iaload, 61, 0, 0, 0, 0), (.ireturn, 62, 0, 0, 0, 0)])
def mX9_most : XM := (yX9_most, cX9_most, 10, (some (.int)), [(.aload_n 0, 1, 0, 0, 0, 0), (.iload_n 1, 2, 0, 0, 0, 0), (.invokevirtual 187, 5, 176, 1, 9, 1154), x_0, x_0, (.ifCond .eq 27, 8, 32, 0, 0, 0), x_0, x_0, (.iload_n 2, 9, 0, 0, 0, 0), (.i2l, 10, 0, 0, 0, 0), (.lconst 1, 11, 0, 0, 0, 0), (.ldc2_w 253, 14, 8, 0, 0, 1298), x_0, x_0, (.invokestatic 77, 17, 149, 3, 9, 1056), x_0, x_0, (.ifCond .eq 15, 20, 32, 0, 0, 0), x_0, x_0, (.iload_n 3, 21, 0, 0, 0, 0), (.i2l, 22, 0, 0, 0, 0), (.lconst 0, 23, 0, 0, 0, 0), (.ldc2_w 259, 26, 40, 0, 0, 1324), x_0, x_0, (.invokestatic 77, 29, 149, 3, 9, 1056), x_0, x_0, (.ifCond .ne 5, 32, 34, 0, 0, 0), x_0, x_0, (.iconst (-1), 33, 0, 0, 0, 0), (.ireturn, 34, 0, 0, 0, 0), (.aload_n 0, 35, 0, 0, 0, 0), (.invokevirtual 246, 38, 212, 0, 9, 1303), x_0, x_0, (.iconst 0, 39, 0, 0, 0, 0), (.istore 4, 41, 0, 0, 0, 0), x_0, (.iload 4, 43, 0, 0, 0, 0), x_0, (.sipush 984, 46, 0, 0, 0, 0), x_0, x_0, (.if_icmp .ge 35, 49, 81, 0, 0, 0), x_0, x_0, (.aload_n 0, 50, 0, 0, 0, 0), (.getfield 53, 53, 0, 26, 9, 974), x_0, x_0, (.iload 4, 55, 0, 0, 0, 0), x_0, (.iload 4, 57, 0, 0, 0, 0), x_0, (.bipush 41, 59, 0, 0, 0, 0), x_0, (.aload_n 0, 60, 0, 0, 0, 0), (.getfield 7, 63, 0, 0, 9, 948), x_0, x_0, (.iconst 2, 64, 0, 0, 0, 0), (.iaload, 65, 0, 0, 0, 0), (.imul, 66, 0, 0, 0, 0), (.if_icmp .ne 7, 69, 73, 0, 0, 0), x_0, x_0, (.iconst 0, 70, 0, 0, 0, 0), (.goto 4, 73, 74, 0, 0, 0), x_0, x_0, (.iconst (-1), 74, 0, 0, 0, 0), (.iastore, 75, 0, 0, 0, 0), (.iinc 4 1, 78, 0, 0, 0, 0), x_0, x_0, (.goto (-37), 81, 41, 0, 0, 0), x_0, x_0, (.iconst 0, 82, 0, 0, 0, 0), (.istore 4, 84, 0, 0, 0, 0), x_0, (.iload 4, 86, 0, 0, 0, 0), x_0, (.iload_n 2, 87, 0, 0, 0, 0), (.if_icmp .ge 214, 90, 301, 0, 0, 0), x_0, x_0, (.iconst 0, 91, 0, 0, 0, 0), (.istore 5, 93, 0, 0, 0, 0), x_0, (.iload 5, 95, 0, 0, 0, 0), x_0, (.sipush 984, 98, 0, 0, 0, 0), x_0, x_0, (.if_icmp .ge 17, 101, 115, 0, 0, 0), x_0, x_0, (.aload_n 0, 102, 0, 0, 0, 0), (.getfield 56, 105, 0, 27, 9, 975), x_0, x_0, (.iload 5, 107, 0, 0, 0, 0), x_0, (.iconst (-1), 108, 0, 0, 0, 0), (.iastore, 109, 0, 0, 0, 0), (.iinc 5 1, 112, 0, 0, 0, 0), x_0, x_0, (.goto (-19), 115, 93, 0, 0, 0), x_0, x_0, (.iconst 0, 116, 0, 0, 0, 0), (.istore 5, 118, 0, 0, 0, 0), x_0, (.iload 5, 120, 0, 0, 0, 0), x_0, (.sipush 984, 123, 0, 0, 0, 0), x_0, x_0, (.if_icmp .ge 141, 126, 264, 0, 0, 0), x_0, x_0, (.bipush (-6), 128, 0, 0, 0, 0), x_0, (.istore 6, 130, 0, 0, 0, 0), x_0, (.iload 6, 132, 0, 0, 0, 0), x_0, (.bipush 7, 134, 0, 0, 0, 0), x_0, (.if_icmp .ge 124, 137, 258, 0, 0, 0), x_0, x_0, (.aload_n 0, 138, 0, 0, 0, 0), (.getfield 53, 141, 0, 26, 9, 974), x_0, x_0, (.iload 5, 143, 0, 0, 0, 0), x_0, (.iaload, 144, 0, 0, 0, 0), (.ifCond .lt 114, 147, 258, 0, 0, 0), x_0, x_0, (.iload 5, 149, 0, 0, 0, 0), x_0, (.bipush 41, 151, 0, 0, 0, 0), x_0, (.idiv, 152, 0, 0, 0, 0), (.iload 6, 154, 0, 0, 0, 0), x_0, (.iadd, 155, 0, 0, 0, 0), (.invokestatic 166, 158, 177, 1, 9, 1173), x_0, x_0, (.istore 7, 160, 0, 0, 0, 0), x_0, (.iload 5, 162, 0, 0, 0, 0), x_0, (.bipush 41, 164, 0, 0, 0, 0), x_0, (.irem, 165, 0, 0, 0, 0), (.aload_n 0, 166, 0, 0, 0, 0), (.getfield 50, 169, 0, 25, 9, 973), x_0, x_0, (.bipush 13, 171, 0, 0, 0, 0), x_0, (.iload 5, 173, 0, 0, 0, 0), x_0, (.bipush 41, 175, 0, 0, 0, 0), x_0, (.idiv, 176, 0, 0, 0, 0), (.imul, 177, 0, 0, 0, 0), (.iload 6, 179, 0, 0, 0, 0), x_0, (.iadd, 180, 0, 0, 0, 0), (.bipush 6, 182, 0, 0, 0, 0), x_0, (.iadd, 183, 0, 0, 0, 0), (.iaload, 184, 0, 0, 0, 0), (.iadd, 185, 0, 0, 0, 0), (.istore 8, 187, 0, 0, 0, 0), x_0, (.aload_n 0, 188, 0, 0, 0, 0), (.getfield 53, 191, 0, 26, 9, 974), x_0, x_0, (.iload 5, 193, 0, 0, 0, 0), x_0, (.iaload, 194, 0, 0, 0, 0), (.aload_n 0, 195, 0, 0, 0, 0), (.iload_n 1, 196, 0, 0, 0, 0), (.iload 7, 198, 0, 0, 0, 0), x_0, (.aload_n 0, 199, 0, 0, 0, 0), (.getfield 7, 202, 0, 0, 9, 948), x_0, x_0, (.iconst 1, 203, 0, 0, 0, 0), (.iaload, 204, 0, 0, 0, 0), (.iload 4, 206, 0, 0, 0, 0), x_0, (.iadd, 207, 0, 0, 0, 0), (.invokevirtual 181, 210, 184, 3, 9, 1183), x_0, x_0, (.iadd, 211, 0, 0, 0, 0), (.istore 9, 213, 0, 0, 0, 0), x_0, (.iload 8, 215, 0, 0, 0, 0), x_0, (.iload_n 3, 216, 0, 0, 0, 0), (.if_icmp .gt 36, 219, 252, 0, 0, 0), x_0, x_0, (.iload 9, 221, 0, 0, 0, 0), x_0, (.aload_n 0, 222, 0, 0, 0, 0), (.getfield 56, 225, 0, 27, 9, 975), x_0, x_0, (.bipush 41, 227, 0, 0, 0, 0), x_0, (.iload 7, 229, 0, 0, 0, 0), x_0, (.imul, 230, 0, 0, 0, 0), (.iload 8, 232, 0, 0, 0, 0), x_0, (.iadd, 233, 0, 0, 0, 0), (.iaload, 234, 0, 0, 0, 0), (.if_icmp .le 18, 237, 252, 0, 0, 0), x_0, x_0, (.aload_n 0, 238, 0, 0, 0, 0), (.getfield 56, 241, 0, 27, 9, 975), x_0, x_0, (.bipush 41, 243, 0, 0, 0, 0), x_0, (.iload 7, 245, 0, 0, 0, 0), x_0, (.imul, 246, 0, 0, 0, 0), (.iload 8, 248, 0, 0, 0, 0), x_0, (.iadd, 249, 0, 0, 0, 0), (.iload 9, 251, 0, 0, 0, 0), x_0, (.iastore, 252, 0, 0, 0, 0), (.iinc 6 1, 255, 0, 0, 0, 0), x_0, x_0, (.goto (-125), 258, 130, 0, 0, 0), x_0, x_0, (.iinc 5 1, 261, 0, 0, 0, 0), x_0, x_0, (.goto (-143), 264, 118, 0, 0, 0), x_0, x_0, (.iconst 0, 265, 0, 0, 0, 0), (.istore 5, 267, 0, 0, 0, 0), x_0, (.iload 5, 269, 0, 0, 0, 0), x_0, (.sipush 984, 272, 0, 0, 0, 0), x_0, x_0, (.if_icmp .ge 23, 275, 295, 0, 0, 0), x_0, x_0, (.aload_n 0, 276, 0, 0, 0, 0), (.getfield 53, 279, 0, 26, 9, 974), x_0, x_0, (.iload 5, 281, 0, 0, 0, 0), x_0, (.aload_n 0, 282, 0, 0, 0, 0), (.getfield 56, 285, 0, 27, 9, 975), x_0, x_0, (.iload 5, 287, 0, 0, 0, 0), x_0, (.iaload, 288, 0, 0, 0, 0), (.iastore, 289, 0, 0, 0, 0), (.iinc 5 1, 292, 0, 0, 0, 0), x_0, x_0, (.goto (-25), 295, 267, 0, 0, 0), x_0, x_0, (.iinc 4 1, 298, 0, 0, 0, 0), x_0, x_0, (.goto (-214), 301, 84, 0, 0, 0), x_0, x_0, (.iconst 0, 302, 0, 0, 0, 0), (.istore 4, 304, 0, 0, 0, 0), x_0, (.iconst 0, 305, 0, 0, 0, 0), (.istore 5, 307, 0, 0, 0, 0), x_0, (.iload 5, 309, 0, 0, 0, 0), x_0, (.sipush 984, 312, 0, 0, 0, 0), x_0, x_0, (.if_icmp .ge 35, 315, 347, 0, 0, 0), x_0, x_0, (.aload_n 0, 316, 0, 0, 0, 0), (.getfield 53, 319, 0, 26, 9, 974), x_0, x_0, (.iload 5, 321, 0, 0, 0, 0), x_0, (.iaload, 322, 0, 0, 0, 0), (.iload 4, 324, 0, 0, 0, 0), x_0, (.if_icmp .le 13, 327, 337, 0, 0, 0), x_0, x_0, (.aload_n 0, 328, 0, 0, 0, 0), (.getfield 53, 331, 0, 26, 9, 974), x_0, x_0, (.iload 5, 333, 0, 0, 0, 0), x_0, (.iaload, 334, 0, 0, 0, 0), (.goto 5, 337, 339, 0, 0, 0), x_0, x_0, (.iload 4, 339, 0, 0, 0, 0), x_0, (.istore 4, 341, 0, 0, 0, 0), x_0, (.iinc 5 1, 344, 0, 0, 0, 0), x_0, x_0, (.goto (-37), 347, 307, 0, 0, 0), x_0, x_0, (.iload 4, 349, 0, 0, 0, 0), x_0, (.ireturn, 350, 0, 0, 0, 0)])
def mX9_areAll : XM := (yX9_areAll, cX9_areAll, 6, (some (.boolean)), [(.iconst 1, 1, 0, 0, 0, 0), (.istore 4, 3, 0, 0, 0, 0), x_0, (.iconst 0, 4, 0, 0, 0, 0), (.istore 5, 6, 0, 0, 0, 0), x_0, (.iload 5, 8, 0, 0, 0, 0), x_0, (.aload_n 0, 9, 0, 0, 0, 0), (.getfield 25, 12, 0, 8, 9, 956), x_0, x_0, (.iload_n 1, 13, 0, 0, 0, 0), (.iaload, 14, 0, 0, 0, 0), (.if_icmp .ge 44, 17, 58, 0, 0, 0), x_0, x_0, (.iload 4, 19, 0, 0, 0, 0), x_0, (.ifCond .eq 30, 22, 49, 0, 0, 0), x_0, x_0, (.aload_n 0, 23, 0, 0, 0, 0), (.getfield 28, 26, 0, 9, 9, 957), x_0, x_0, (.bipush 40, 28, 0, 0, 0, 0), x_0, (.iload_n 1, 29, 0, 0, 0, 0), (.imul, 30, 0, 0, 0, 0), (.iload 5, 32, 0, 0, 0, 0), x_0, (.iadd, 33, 0, 0, 0, 0), (.iaload, 34, 0, 0, 0, 0), (.i2l, 35, 0, 0, 0, 0), (.iload_n 2, 36, 0, 0, 0, 0), (.i2l, 37, 0, 0, 0, 0), (.iload_n 3, 38, 0, 0, 0, 0), (.i2l, 39, 0, 0, 0, 0), (.invokestatic 77, 42, 149, 3, 9, 1056), x_0, x_0, (.ifCond .eq 7, 45, 49, 0, 0, 0), x_0, x_0, (.iconst 1, 46, 0, 0, 0, 0), (.goto 4, 49, 50, 0, 0, 0), x_0, x_0, (.iconst 0, 50, 0, 0, 0, 0), (.istore 4, 52, 0, 0, 0, 0), x_0, (.iinc 5 1, 55, 0, 0, 0, 0), x_0, x_0, (.goto (-49), 58, 6, 0, 0, 0), x_0, x_0, (.iload 4, 60, 0, 0, 0, 0), x_0, (.ireturn, 61, 0, 0, 0, 0)])
def mX9_noTurns : XM := (yX9_noTurns, cX9_noTurns, 2, (some (.int)), [(.aload_n 0, 1, 0, 0, 0, 0), (.getfield 25, 4, 0, 8, 9, 956), x_0, x_0, (.iload_n 1, 5, 0, 0, 0, 0), (.iaload, 6, 0, 0, 0, 0), (.ifCond .ge 11, 9, 17, 0, 0, 0), x_0, x_0, (.aload_n 0, 10, 0, 0, 0, 0), (.iconst 1, 11, 0, 0, 0, 0), (.invokevirtual 87, 14, 151, 1, 9, 1059), x_0, x_0, (.goto 49, 17, 63, 0, 0, 0), x_0, x_0, (.aload_n 0, 18, 0, 0, 0, 0), (.getfield 25, 21, 0, 8, 9, 956), x_0, x_0, (.iload_n 1, 22, 0, 0, 0, 0), (.iaload, 23, 0, 0, 0, 0), (.i2l, 24, 0, 0, 0, 0), (.lconst 1, 25, 0, 0, 0, 0), (.ldc2_w 253, 28, 8, 0, 0, 1298), x_0, x_0, (.invokestatic 77, 31, 149, 3, 9, 1056), x_0, x_0, (.ifCond .ne 11, 34, 42, 0, 0, 0), x_0, x_0, (.aload_n 0, 35, 0, 0, 0, 0), (.iconst 5, 36, 0, 0, 0, 0), (.invokevirtual 87, 39, 151, 1, 9, 1059), x_0, x_0, (.goto 24, 42, 63, 0, 0, 0), x_0, x_0, (.aload_n 0, 43, 0, 0, 0, 0), (.iload_n 1, 44, 0, 0, 0, 0), (.bipush (-6), 46, 0, 0, 0, 0), x_0, (.bipush 6, 48, 0, 0, 0, 0), x_0, (.invokevirtual 261, 51, 219, 3, 9, 1333), x_0, x_0, (.ifCond .eq 7, 54, 58, 0, 0, 0), x_0, x_0, (.iconst 0, 55, 0, 0, 0, 0), (.goto 8, 58, 63, 0, 0, 0), x_0, x_0, (.aload_n 0, 59, 0, 0, 0, 0), (.iconst 3, 60, 0, 0, 0, 0), (.invokevirtual 87, 63, 151, 1, 9, 1059), x_0, x_0, (.ireturn, 64, 0, 0, 0, 0)])
def mX9_by : XM := (yX9_by, cX9_by, 7, (some (.int)), [(.aload_n 0, 1, 0, 0, 0, 0), (.iload_n 1, 2, 0, 0, 0, 0), (.invokevirtual 187, 5, 176, 1, 9, 1154), x_0, x_0, (.ifCond .eq 10, 8, 15, 0, 0, 0), x_0, x_0, (.iload_n 2, 9, 0, 0, 0, 0), (.invokestatic 83, 12, 153, 1, 9, 1052), x_0, x_0, (.ifCond .ne 5, 15, 17, 0, 0, 0), x_0, x_0, (.iconst (-1), 16, 0, 0, 0, 0), (.ireturn, 17, 0, 0, 0, 0), (.aload_n 0, 18, 0, 0, 0, 0), (.iload_n 2, 19, 0, 0, 0, 0), (.invokevirtual 264, 22, 220, 1, 9, 1329), x_0, x_0, (.istore_n 3, 23, 0, 0, 0, 0), (.iload_n 3, 24, 0, 0, 0, 0), (.ifCond .eq 5, 27, 29, 0, 0, 0), x_0, x_0, (.iload_n 3, 28, 0, 0, 0, 0), (.ireturn, 29, 0, 0, 0, 0), (.aload_n 0, 30, 0, 0, 0, 0), (.getfield 7, 33, 0, 0, 9, 948), x_0, x_0, (.iconst 2, 34, 0, 0, 0, 0), (.iaload, 35, 0, 0, 0, 0), (.istore 4, 37, 0, 0, 0, 0), x_0, (.iconst 0, 38, 0, 0, 0, 0), (.istore 5, 40, 0, 0, 0, 0), x_0, (.aload_n 0, 41, 0, 0, 0, 0), (.iconst 0, 42, 0, 0, 0, 0), (.putfield 72, 45, 0, 12, 9, 960), x_0, x_0, (.iconst 0, 46, 0, 0, 0, 0), (.istore 6, 48, 0, 0, 0, 0), x_0, (.iload 6, 50, 0, 0, 0, 0), x_0, (.aload_n 0, 51, 0, 0, 0, 0), (.getfield 25, 54, 0, 8, 9, 956), x_0, x_0, (.iload_n 2, 55, 0, 0, 0, 0), (.iaload, 56, 0, 0, 0, 0), (.if_icmp .ge 77, 59, 133, 0, 0, 0), x_0, x_0, (.aload_n 0, 60, 0, 0, 0, 0), (.dup, 61, 0, 0, 0, 0), (.getfield 72, 64, 0, 12, 9, 960), x_0, x_0, (.aload_n 0, 65, 0, 0, 0, 0), (.iload 4, 67, 0, 0, 0, 0), x_0, (.aload_n 0, 68, 0, 0, 0, 0), (.getfield 28, 71, 0, 9, 9, 957), x_0, x_0, (.bipush 40, 73, 0, 0, 0, 0), x_0, (.iload_n 2, 74, 0, 0, 0, 0), (.imul, 75, 0, 0, 0, 0), (.iload 6, 77, 0, 0, 0, 0), x_0, (.iadd, 78, 0, 0, 0, 0), (.iaload, 79, 0, 0, 0, 0), (.invokevirtual 218, 82, 197, 2, 9, 1241), x_0, x_0, (.iadd, 83, 0, 0, 0, 0), (.putfield 72, 86, 0, 12, 9, 960), x_0, x_0, (.iload 4, 88, 0, 0, 0, 0), x_0, (.aload_n 0, 89, 0, 0, 0, 0), (.getfield 28, 92, 0, 9, 9, 957), x_0, x_0, (.bipush 40, 94, 0, 0, 0, 0), x_0, (.iload_n 2, 95, 0, 0, 0, 0), (.imul, 96, 0, 0, 0, 0), (.iload 6, 98, 0, 0, 0, 0), x_0, (.iadd, 99, 0, 0, 0, 0), (.iaload, 100, 0, 0, 0, 0), (.iadd, 101, 0, 0, 0, 0), (.invokestatic 166, 104, 177, 1, 9, 1173), x_0, x_0, (.istore 4, 106, 0, 0, 0, 0), x_0, (.iload 5, 108, 0, 0, 0, 0), x_0, (.aload_n 0, 109, 0, 0, 0, 0), (.iload_n 1, 110, 0, 0, 0, 0), (.iload 4, 112, 0, 0, 0, 0), x_0, (.aload_n 0, 113, 0, 0, 0, 0), (.getfield 7, 116, 0, 0, 9, 948), x_0, x_0, (.iconst 1, 117, 0, 0, 0, 0), (.iaload, 118, 0, 0, 0, 0), (.iload 6, 120, 0, 0, 0, 0), x_0, (.iadd, 121, 0, 0, 0, 0), (.invokevirtual 181, 124, 184, 3, 9, 1183), x_0, x_0, (.iadd, 125, 0, 0, 0, 0), (.istore 5, 127, 0, 0, 0, 0), x_0, (.iinc 6 1, 130, 0, 0, 0, 0), x_0, x_0, (.goto (-82), 133, 48, 0, 0, 0), x_0, x_0, (.iload 5, 135, 0, 0, 0, 0), x_0, (.ireturn, 136, 0, 0, 0, 0)])
def mX9_nextOrder : XM := (yX9_nextOrder, cX9_nextOrder, 7, (some (.boolean)), [(.iload_n 1, 1, 0, 0, 0, 0), (.iconst 2, 2, 0, 0, 0, 0), (.isub, 3, 0, 0, 0, 0), (.istore_n 2, 4, 0, 0, 0, 0), (.iload_n 2, 5, 0, 0, 0, 0), (.ifCond .lt 26, 8, 31, 0, 0, 0), x_0, x_0, (.aload_n 0, 9, 0, 0, 0, 0), (.getfield 59, 12, 0, 28, 9, 976), x_0, x_0, (.iload_n 2, 13, 0, 0, 0, 0), (.iaload, 14, 0, 0, 0, 0), (.aload_n 0, 15, 0, 0, 0, 0), (.getfield 59, 18, 0, 28, 9, 976), x_0, x_0, (.iload_n 2, 19, 0, 0, 0, 0), (.iconst 1, 20, 0, 0, 0, 0), (.iadd, 21, 0, 0, 0, 0), (.iaload, 22, 0, 0, 0, 0), (.if_icmp .le 9, 25, 31, 0, 0, 0), x_0, x_0, (.iinc 2 (-1), 28, 0, 0, 0, 0), x_0, x_0, (.goto (-24), 31, 4, 0, 0, 0), x_0, x_0, (.iload_n 2, 32, 0, 0, 0, 0), (.ifCond .ge 5, 35, 37, 0, 0, 0), x_0, x_0, (.iconst 0, 36, 0, 0, 0, 0), (.ireturn, 37, 0, 0, 0, 0), (.iload_n 1, 38, 0, 0, 0, 0), (.iconst 1, 39, 0, 0, 0, 0), (.isub, 40, 0, 0, 0, 0), (.istore_n 3, 41, 0, 0, 0, 0), (.aload_n 0, 42, 0, 0, 0, 0), (.getfield 59, 45, 0, 28, 9, 976), x_0, x_0, (.iload_n 3, 46, 0, 0, 0, 0), (.iaload, 47, 0, 0, 0, 0), (.aload_n 0, 48, 0, 0, 0, 0), (.getfield 59, 51, 0, 28, 9, 976), x_0, x_0, (.iload_n 2, 52, 0, 0, 0, 0), (.iaload, 53, 0, 0, 0, 0), (.if_icmp .ge 9, 56, 62, 0, 0, 0), x_0, x_0, (.iinc 3 (-1), 59, 0, 0, 0, 0), x_0, x_0, (.goto (-18), 62, 41, 0, 0, 0), x_0, x_0, (.aload_n 0, 63, 0, 0, 0, 0), (.getfield 59, 66, 0, 28, 9, 976), x_0, x_0, (.iload_n 2, 67, 0, 0, 0, 0), (.iaload, 68, 0, 0, 0, 0), (.istore 4, 70, 0, 0, 0, 0), x_0, (.aload_n 0, 71, 0, 0, 0, 0), (.getfield 59, 74, 0, 28, 9, 976), x_0, x_0, (.iload_n 2, 75, 0, 0, 0, 0), (.aload_n 0, 76, 0, 0, 0, 0), (.getfield 59, 79, 0, 28, 9, 976), x_0, x_0, (.iload_n 3, 80, 0, 0, 0, 0), (.iaload, 81, 0, 0, 0, 0), (.iastore, 82, 0, 0, 0, 0), (.aload_n 0, 83, 0, 0, 0, 0), (.getfield 59, 86, 0, 28, 9, 976), x_0, x_0, (.iload_n 3, 87, 0, 0, 0, 0), (.iload 4, 89, 0, 0, 0, 0), x_0, (.iastore, 90, 0, 0, 0, 0), (.iload_n 2, 91, 0, 0, 0, 0), (.iconst 1, 92, 0, 0, 0, 0), (.iadd, 93, 0, 0, 0, 0), (.istore 5, 95, 0, 0, 0, 0), x_0, (.iload_n 1, 96, 0, 0, 0, 0), (.iconst 1, 97, 0, 0, 0, 0), (.isub, 98, 0, 0, 0, 0), (.istore 6, 100, 0, 0, 0, 0), x_0, (.iload 5, 102, 0, 0, 0, 0), x_0, (.iload 6, 104, 0, 0, 0, 0), x_0, (.if_icmp .ge 44, 107, 148, 0, 0, 0), x_0, x_0, (.aload_n 0, 108, 0, 0, 0, 0), (.getfield 59, 111, 0, 28, 9, 976), x_0, x_0, (.iload 5, 113, 0, 0, 0, 0), x_0, (.iaload, 114, 0, 0, 0, 0), (.istore 4, 116, 0, 0, 0, 0), x_0, (.aload_n 0, 117, 0, 0, 0, 0), (.getfield 59, 120, 0, 28, 9, 976), x_0, x_0, (.iload 5, 122, 0, 0, 0, 0), x_0, (.aload_n 0, 123, 0, 0, 0, 0), (.getfield 59, 126, 0, 28, 9, 976), x_0, x_0, (.iload 6, 128, 0, 0, 0, 0), x_0, (.iaload, 129, 0, 0, 0, 0), (.iastore, 130, 0, 0, 0, 0), (.aload_n 0, 131, 0, 0, 0, 0), (.getfield 59, 134, 0, 28, 9, 976), x_0, x_0, (.iload 6, 136, 0, 0, 0, 0), x_0, (.iload 4, 138, 0, 0, 0, 0), x_0, (.iastore, 139, 0, 0, 0, 0), (.iinc 5 1, 142, 0, 0, 0, 0), x_0, x_0, (.iinc 6 (-1), 145, 0, 0, 0, 0), x_0, x_0, (.goto (-45), 148, 100, 0, 0, 0), x_0, x_0, (.iconst 1, 149, 0, 0, 0, 0), (.ireturn, 150, 0, 0, 0, 0)])
def mX9_orderEffort : XM := (yX9_orderEffort, cX9_orderEffort, 5, (some (.int)), [(.iconst 0, 1, 0, 0, 0, 0), (.istore_n 1, 2, 0, 0, 0, 0), (.iload_n 1, 3, 0, 0, 0, 0), (.bipush 24, 5, 0, 0, 0, 0), x_0, (.if_icmp .ge 24, 8, 29, 0, 0, 0), x_0, x_0, (.aload_n 0, 9, 0, 0, 0, 0), (.getfield 47, 12, 0, 24, 9, 972), x_0, x_0, (.bipush 24, 14, 0, 0, 0, 0), x_0, (.aload_n 0, 15, 0, 0, 0, 0), (.getfield 159, 18, 0, 3, 9, 951), x_0, x_0, (.imul, 19, 0, 0, 0, 0), (.iload_n 1, 20, 0, 0, 0, 0), (.iadd, 21, 0, 0, 0, 0), (.iconst 0, 22, 0, 0, 0, 0), (.iastore, 23, 0, 0, 0, 0), (.iinc 1 1, 26, 0, 0, 0, 0), x_0, x_0, (.goto (-24), 29, 2, 0, 0, 0), x_0, x_0, (.aload_n 0, 30, 0, 0, 0, 0), (.getfield 159, 33, 0, 3, 9, 951), x_0, x_0, (.iconst 1, 34, 0, 0, 0, 0), (.isub, 35, 0, 0, 0, 0), (.istore_n 1, 36, 0, 0, 0, 0), (.iload_n 1, 37, 0, 0, 0, 0), (.ifCond .lt 110, 40, 147, 0, 0, 0), x_0, x_0, (.iconst 0, 41, 0, 0, 0, 0), (.istore_n 2, 42, 0, 0, 0, 0), (.iload_n 2, 43, 0, 0, 0, 0), (.bipush 24, 45, 0, 0, 0, 0), x_0, (.if_icmp .ge 96, 48, 141, 0, 0, 0), x_0, x_0, (.aload_n 0, 49, 0, 0, 0, 0), (.getfield 47, 52, 0, 24, 9, 972), x_0, x_0, (.bipush 24, 54, 0, 0, 0, 0), x_0, (.iload_n 1, 55, 0, 0, 0, 0), (.imul, 56, 0, 0, 0, 0), (.iload_n 2, 57, 0, 0, 0, 0), (.iadd, 58, 0, 0, 0, 0), (.ldc 245, 60, 100000, 0, 0, 1307), x_0, (.iastore, 61, 0, 0, 0, 0), (.bipush (-6), 63, 0, 0, 0, 0), x_0, (.istore_n 3, 64, 0, 0, 0, 0), (.iload_n 3, 65, 0, 0, 0, 0), (.bipush 7, 67, 0, 0, 0, 0), x_0, (.if_icmp .ge 68, 70, 135, 0, 0, 0), x_0, x_0, (.aload_n 0, 71, 0, 0, 0, 0), (.aload_n 0, 72, 0, 0, 0, 0), (.getfield 59, 75, 0, 28, 9, 976), x_0, x_0, (.iload_n 1, 76, 0, 0, 0, 0), (.iaload, 77, 0, 0, 0, 0), (.iload_n 1, 78, 0, 0, 0, 0), (.iload_n 2, 79, 0, 0, 0, 0), (.iload_n 3, 80, 0, 0, 0, 0), (.iconst 0, 81, 0, 0, 0, 0), (.invokevirtual 249, 84, 214, 5, 9, 1308), x_0, x_0, (.istore 4, 86, 0, 0, 0, 0), x_0, (.aload_n 0, 87, 0, 0, 0, 0), (.getfield 47, 90, 0, 24, 9, 972), x_0, x_0, (.bipush 24, 92, 0, 0, 0, 0), x_0, (.iload_n 1, 93, 0, 0, 0, 0), (.imul, 94, 0, 0, 0, 0), (.iload_n 2, 95, 0, 0, 0, 0), (.iadd, 96, 0, 0, 0, 0), (.iload 4, 98, 0, 0, 0, 0), x_0, (.aload_n 0, 99, 0, 0, 0, 0), (.getfield 47, 102, 0, 24, 9, 972), x_0, x_0, (.bipush 24, 104, 0, 0, 0, 0), x_0, (.iload_n 1, 105, 0, 0, 0, 0), (.imul, 106, 0, 0, 0, 0), (.iload_n 2, 107, 0, 0, 0, 0), (.iadd, 108, 0, 0, 0, 0), (.iaload, 109, 0, 0, 0, 0), (.if_icmp .ge 8, 112, 117, 0, 0, 0), x_0, x_0, (.iload 4, 114, 0, 0, 0, 0), x_0, (.goto 14, 117, 128, 0, 0, 0), x_0, x_0, (.aload_n 0, 118, 0, 0, 0, 0), (.getfield 47, 121, 0, 24, 9, 972), x_0, x_0, (.bipush 24, 123, 0, 0, 0, 0), x_0, (.iload_n 1, 124, 0, 0, 0, 0), (.imul, 125, 0, 0, 0, 0), (.iload_n 2, 126, 0, 0, 0, 0), (.iadd, 127, 0, 0, 0, 0), (.iaload, 128, 0, 0, 0, 0), (.iastore, 129, 0, 0, 0, 0), (.iinc 3 1, 132, 0, 0, 0, 0), x_0, x_0, (.goto (-68), 135, 64, 0, 0, 0), x_0, x_0, (.iinc 2 1, 138, 0, 0, 0, 0), x_0, x_0, (.goto (-96), 141, 42, 0, 0, 0), x_0, x_0, (.iinc 1 (-1), 144, 0, 0, 0, 0), x_0, x_0, (.goto (-108), 147, 36, 0, 0, 0), x_0, x_0, (.aload_n 0, 148, 0, 0, 0, 0), (.getfield 47, 151, 0, 24, 9, 972), x_0, x_0, (.aload_n 0, 152, 0, 0, 0, 0), (.getfield 7, 155, 0, 0, 9, 948), x_0, x_0, (.iconst 2, 156, 0, 0, 0, 0), (.iaload, 157, 0, 0, 0, 0), (.iaload, 158, 0, 0, 0, 0), (.ireturn, 159, 0, 0, 0, 0)])
def mX9_order : XM := (yX9_order, cX9_order, 6, (some (.int)), [(.iload_n 1, 1, 0, 0, 0, 0), (.invokestatic 83, 4, 153, 1, 9, 1052), x_0, x_0, (.ifCond .ne 5, 7, 9, 0, 0, 0), x_0, x_0, (.iconst (-1), 8, 0, 0, 0, 0), (.ireturn, 9, 0, 0, 0, 0), (.aload_n 0, 10, 0, 0, 0, 0), (.getfield 159, 13, 0, 3, 9, 951), x_0, x_0, (.ifCond .ne 6, 16, 19, 0, 0, 0), x_0, x_0, (.bipush (-4), 18, 0, 0, 0, 0), x_0, (.ireturn, 19, 0, 0, 0, 0), (.aload_n 0, 20, 0, 0, 0, 0), (.invokevirtual 246, 23, 212, 0, 9, 1303), x_0, x_0, (.iconst 0, 24, 0, 0, 0, 0), (.istore_n 2, 25, 0, 0, 0, 0), (.iload_n 2, 26, 0, 0, 0, 0), (.aload_n 0, 27, 0, 0, 0, 0), (.getfield 159, 30, 0, 3, 9, 951), x_0, x_0, (.if_icmp .ge 16, 33, 46, 0, 0, 0), x_0, x_0, (.aload_n 0, 34, 0, 0, 0, 0), (.getfield 59, 37, 0, 28, 9, 976), x_0, x_0, (.iload_n 2, 38, 0, 0, 0, 0), (.iload_n 2, 39, 0, 0, 0, 0), (.iastore, 40, 0, 0, 0, 0), (.iinc 2 1, 43, 0, 0, 0, 0), x_0, x_0, (.goto (-18), 46, 25, 0, 0, 0), x_0, x_0, (.ldc 245, 48, 100000, 0, 0, 1307), x_0, (.istore_n 2, 49, 0, 0, 0, 0), (.iconst 1, 50, 0, 0, 0, 0), (.istore_n 3, 51, 0, 0, 0, 0), (.iload_n 3, 52, 0, 0, 0, 0), (.ifCond .eq 76, 55, 128, 0, 0, 0), x_0, x_0, (.aload_n 0, 56, 0, 0, 0, 0), (.invokevirtual 267, 59, 223, 0, 9, 1341), x_0, x_0, (.istore 4, 61, 0, 0, 0, 0), x_0, (.iload 4, 63, 0, 0, 0, 0), x_0, (.iload_n 2, 64, 0, 0, 0, 0), (.if_icmp .ge 52, 67, 116, 0, 0, 0), x_0, x_0, (.iload 4, 69, 0, 0, 0, 0), x_0, (.istore_n 2, 70, 0, 0, 0, 0), (.aload_n 0, 71, 0, 0, 0, 0), (.iload_n 1, 72, 0, 0, 0, 0), (.aload_n 0, 73, 0, 0, 0, 0), (.getfield 159, 76, 0, 3, 9, 951), x_0, x_0, (.invokevirtual 91, 79, 156, 2, 9, 1063), x_0, x_0, (.iconst 0, 80, 0, 0, 0, 0), (.istore 5, 82, 0, 0, 0, 0), x_0, (.iload 5, 84, 0, 0, 0, 0), x_0, (.aload_n 0, 85, 0, 0, 0, 0), (.getfield 159, 88, 0, 3, 9, 951), x_0, x_0, (.if_icmp .ge 28, 91, 116, 0, 0, 0), x_0, x_0, (.aload_n 0, 92, 0, 0, 0, 0), (.getfield 28, 95, 0, 9, 9, 957), x_0, x_0, (.bipush 40, 97, 0, 0, 0, 0), x_0, (.iload_n 1, 98, 0, 0, 0, 0), (.imul, 99, 0, 0, 0, 0), (.iload 5, 101, 0, 0, 0, 0), x_0, (.iadd, 102, 0, 0, 0, 0), (.aload_n 0, 103, 0, 0, 0, 0), (.getfield 59, 106, 0, 28, 9, 976), x_0, x_0, (.iload 5, 108, 0, 0, 0, 0), x_0, (.iaload, 109, 0, 0, 0, 0), (.iastore, 110, 0, 0, 0, 0), (.iinc 5 1, 113, 0, 0, 0, 0), x_0, x_0, (.goto (-31), 116, 82, 0, 0, 0), x_0, x_0, (.aload_n 0, 117, 0, 0, 0, 0), (.aload_n 0, 118, 0, 0, 0, 0), (.getfield 159, 121, 0, 3, 9, 951), x_0, x_0, (.invokevirtual 270, 124, 222, 1, 9, 1345), x_0, x_0, (.istore_n 3, 125, 0, 0, 0, 0), (.goto (-74), 128, 51, 0, 0, 0), x_0, x_0, (.iload_n 2, 129, 0, 0, 0, 0), (.ldc 245, 131, 100000, 0, 0, 1307), x_0, (.if_icmp .lt 8, 134, 139, 0, 0, 0), x_0, x_0, (.bipush (-9), 136, 0, 0, 0, 0), x_0, (.goto 4, 139, 140, 0, 0, 0), x_0, x_0, (.iload_n 2, 140, 0, 0, 0, 0), (.ireturn, 141, 0, 0, 0, 0)])
def mX9_noNotes : XM := (yX9_noNotes, cX9_noNotes, 2, (some (.int)), [(.aload_n 0, 1, 0, 0, 0, 0), (.getfield 25, 4, 0, 8, 9, 956), x_0, x_0, (.iload_n 1, 5, 0, 0, 0, 0), (.iaload, 6, 0, 0, 0, 0), (.ifCond .ge 11, 9, 17, 0, 0, 0), x_0, x_0, (.aload_n 0, 10, 0, 0, 0, 0), (.iconst 1, 11, 0, 0, 0, 0), (.invokevirtual 87, 14, 151, 1, 9, 1059), x_0, x_0, (.goto 43, 17, 57, 0, 0, 0), x_0, x_0, (.aload_n 0, 18, 0, 0, 0, 0), (.getfield 25, 21, 0, 8, 9, 956), x_0, x_0, (.iload_n 1, 22, 0, 0, 0, 0), (.iaload, 23, 0, 0, 0, 0), (.bipush 20, 25, 0, 0, 0, 0), x_0, (.if_icmp .le 11, 28, 36, 0, 0, 0), x_0, x_0, (.aload_n 0, 29, 0, 0, 0, 0), (.iconst 5, 30, 0, 0, 0, 0), (.invokevirtual 87, 33, 151, 1, 9, 1059), x_0, x_0, (.goto 24, 36, 57, 0, 0, 0), x_0, x_0, (.aload_n 0, 37, 0, 0, 0, 0), (.iload_n 1, 38, 0, 0, 0, 0), (.iconst 0, 39, 0, 0, 0, 0), (.ldc_w 273, 42, 2147483647, 0, 0, 1357), x_0, x_0, (.invokevirtual 261, 45, 219, 3, 9, 1333), x_0, x_0, (.ifCond .eq 7, 48, 52, 0, 0, 0), x_0, x_0, (.iconst 0, 49, 0, 0, 0, 0), (.goto 8, 52, 57, 0, 0, 0), x_0, x_0, (.aload_n 0, 53, 0, 0, 0, 0), (.iconst 3, 54, 0, 0, 0, 0), (.invokevirtual 87, 57, 151, 1, 9, 1059), x_0, x_0, (.ireturn, 58, 0, 0, 0, 0)])
def mX9_isSo : XM := (yX9_isSo, cX9_isSo, 10, (some (.boolean)), [(.iconst 1, 1, 0, 0, 0, 0), (.istore 6, 3, 0, 0, 0, 0), x_0, (.iconst 0, 4, 0, 0, 0, 0), (.istore 7, 6, 0, 0, 0, 0), x_0, (.iload 7, 8, 0, 0, 0, 0), x_0, (.aload_n 0, 9, 0, 0, 0, 0), (.getfield 25, 12, 0, 8, 9, 956), x_0, x_0, (.iload_n 2, 13, 0, 0, 0, 0), (.iaload, 14, 0, 0, 0, 0), (.if_icmp .ge 101, 17, 115, 0, 0, 0), x_0, x_0, (.iload 6, 19, 0, 0, 0, 0), x_0, (.ifCond .eq 96, 22, 115, 0, 0, 0), x_0, x_0, (.aload_n 0, 23, 0, 0, 0, 0), (.getfield 7, 26, 0, 0, 9, 948), x_0, x_0, (.iconst 1, 27, 0, 0, 0, 0), (.iaload, 28, 0, 0, 0, 0), (.iload 7, 30, 0, 0, 0, 0), x_0, (.iadd, 31, 0, 0, 0, 0), (.istore 8, 33, 0, 0, 0, 0), x_0, (.iload 4, 35, 0, 0, 0, 0), x_0, (.iload_n 3, 36, 0, 0, 0, 0), (.iload 5, 38, 0, 0, 0, 0), x_0, (.iload 8, 40, 0, 0, 0, 0), x_0, (.invokestatic 162, 43, 178, 3, 9, 1170), x_0, x_0, (.iadd, 44, 0, 0, 0, 0), (.iload_n 3, 45, 0, 0, 0, 0), (.iload 5, 47, 0, 0, 0, 0), x_0, (.aload_n 0, 48, 0, 0, 0, 0), (.getfield 7, 51, 0, 0, 9, 948), x_0, x_0, (.iconst 1, 52, 0, 0, 0, 0), (.iaload, 53, 0, 0, 0, 0), (.invokestatic 162, 56, 178, 3, 9, 1170), x_0, x_0, (.isub, 57, 0, 0, 0, 0), (.invokestatic 166, 60, 177, 1, 9, 1173), x_0, x_0, (.istore 9, 62, 0, 0, 0, 0), x_0, (.iload_n 3, 63, 0, 0, 0, 0), (.aload_n 0, 64, 0, 0, 0, 0), (.getfield 22, 67, 0, 7, 9, 955), x_0, x_0, (.iload_n 1, 68, 0, 0, 0, 0), (.iaload, 69, 0, 0, 0, 0), (.iload 8, 71, 0, 0, 0, 0), x_0, (.invokestatic 172, 74, 181, 3, 9, 1180), x_0, x_0, (.aload_n 0, 75, 0, 0, 0, 0), (.iload 9, 77, 0, 0, 0, 0), x_0, (.aload_n 0, 78, 0, 0, 0, 0), (.getfield 7, 81, 0, 0, 9, 948), x_0, x_0, (.iconst 2, 82, 0, 0, 0, 0), (.iaload, 83, 0, 0, 0, 0), (.invokevirtual 178, 86, 183, 2, 9, 1187), x_0, x_0, (.imul, 87, 0, 0, 0, 0), (.aload_n 0, 88, 0, 0, 0, 0), (.getfield 28, 91, 0, 9, 9, 957), x_0, x_0, (.bipush 40, 93, 0, 0, 0, 0), x_0, (.iload_n 2, 94, 0, 0, 0, 0), (.imul, 95, 0, 0, 0, 0), (.iload 7, 97, 0, 0, 0, 0), x_0, (.iadd, 98, 0, 0, 0, 0), (.iaload, 99, 0, 0, 0, 0), (.if_icmp .ne 7, 102, 106, 0, 0, 0), x_0, x_0, (.iconst 1, 103, 0, 0, 0, 0), (.goto 4, 106, 107, 0, 0, 0), x_0, x_0, (.iconst 0, 107, 0, 0, 0, 0), (.istore 6, 109, 0, 0, 0, 0), x_0, (.iinc 7 1, 112, 0, 0, 0, 0), x_0, x_0, (.goto (-106), 115, 6, 0, 0, 0), x_0, x_0, (.iload 6, 117, 0, 0, 0, 0), x_0, (.ireturn, 118, 0, 0, 0, 0)])
def mX9_kinds : XM := (yX9_kinds, cX9_kinds, 6, (some (.int)), [(.aload_n 0, 1, 0, 0, 0, 0), (.iload_n 1, 2, 0, 0, 0, 0), (.invokevirtual 187, 5, 176, 1, 9, 1154), x_0, x_0, (.ifCond .eq 10, 8, 15, 0, 0, 0), x_0, x_0, (.iload_n 2, 9, 0, 0, 0, 0), (.invokestatic 83, 12, 153, 1, 9, 1052), x_0, x_0, (.ifCond .ne 5, 15, 17, 0, 0, 0), x_0, x_0, (.iconst (-1), 16, 0, 0, 0, 0), (.ireturn, 17, 0, 0, 0, 0), (.aload_n 0, 18, 0, 0, 0, 0), (.iload_n 2, 19, 0, 0, 0, 0), (.invokevirtual 274, 22, 225, 1, 9, 1353), x_0, x_0, (.istore_n 3, 23, 0, 0, 0, 0), (.iload_n 3, 24, 0, 0, 0, 0), (.ifCond .eq 5, 27, 29, 0, 0, 0), x_0, x_0, (.iload_n 3, 28, 0, 0, 0, 0), (.ireturn, 29, 0, 0, 0, 0), (.iconst 0, 30, 0, 0, 0, 0), (.istore 4, 32, 0, 0, 0, 0), x_0, (.iconst 0, 33, 0, 0, 0, 0), (.istore 5, 35, 0, 0, 0, 0), x_0, (.iload 5, 37, 0, 0, 0, 0), x_0, (.bipush 6, 39, 0, 0, 0, 0), x_0, (.if_icmp .ge 44, 42, 83, 0, 0, 0), x_0, x_0, (.iload 4, 44, 0, 0, 0, 0), x_0, (.aload_n 0, 45, 0, 0, 0, 0), (.iload_n 1, 46, 0, 0, 0, 0), (.iload_n 2, 47, 0, 0, 0, 0), (.iload 5, 49, 0, 0, 0, 0), x_0, (.aload_n 0, 50, 0, 0, 0, 0), (.iload_n 1, 51, 0, 0, 0, 0), (.invokevirtual 184, 54, 180, 1, 9, 1162), x_0, x_0, (.aload_n 0, 55, 0, 0, 0, 0), (.getfield 19, 58, 0, 6, 9, 954), x_0, x_0, (.iload_n 1, 59, 0, 0, 0, 0), (.iaload, 60, 0, 0, 0, 0), (.invokevirtual 277, 63, 226, 5, 9, 1358), x_0, x_0, (.ifCond .eq 10, 66, 73, 0, 0, 0), x_0, x_0, (.iconst 1, 67, 0, 0, 0, 0), (.iload 5, 69, 0, 0, 0, 0), x_0, (.ishl, 70, 0, 0, 0, 0), (.goto 4, 73, 74, 0, 0, 0), x_0, x_0, (.iconst 0, 74, 0, 0, 0, 0), (.ior, 75, 0, 0, 0, 0), (.istore 4, 77, 0, 0, 0, 0), x_0, (.iinc 5 1, 80, 0, 0, 0, 0), x_0, x_0, (.goto (-45), 83, 35, 0, 0, 0), x_0, x_0, (.iload 4, 85, 0, 0, 0, 0), x_0, (.ireturn, 86, 0, 0, 0, 0)])
def mX9_places : XM := (yX9_places, cX9_places, 6, (some (.int)), [(.aload_n 0, 1, 0, 0, 0, 0), (.iload_n 1, 2, 0, 0, 0, 0), (.invokevirtual 187, 5, 176, 1, 9, 1154), x_0, x_0, (.ifCond .eq 10, 8, 15, 0, 0, 0), x_0, x_0, (.iload_n 2, 9, 0, 0, 0, 0), (.invokestatic 83, 12, 153, 1, 9, 1052), x_0, x_0, (.ifCond .ne 5, 15, 17, 0, 0, 0), x_0, x_0, (.iconst (-1), 16, 0, 0, 0, 0), (.ireturn, 17, 0, 0, 0, 0), (.aload_n 0, 18, 0, 0, 0, 0), (.iload_n 2, 19, 0, 0, 0, 0), (.invokevirtual 274, 22, 225, 1, 9, 1353), x_0, x_0, (.istore_n 3, 23, 0, 0, 0, 0), (.iload_n 3, 24, 0, 0, 0, 0), (.ifCond .eq 5, 27, 29, 0, 0, 0), x_0, x_0, (.iload_n 3, 28, 0, 0, 0, 0), (.ireturn, 29, 0, 0, 0, 0), (.iconst 0, 30, 0, 0, 0, 0), (.istore 4, 32, 0, 0, 0, 0), x_0, (.iconst 0, 33, 0, 0, 0, 0), (.istore 5, 35, 0, 0, 0, 0), x_0, (.iload 5, 37, 0, 0, 0, 0), x_0, (.bipush 24, 39, 0, 0, 0, 0), x_0, (.if_icmp .ge 45, 42, 84, 0, 0, 0), x_0, x_0, (.iload 4, 44, 0, 0, 0, 0), x_0, (.aload_n 0, 45, 0, 0, 0, 0), (.iload_n 1, 46, 0, 0, 0, 0), (.iload_n 2, 47, 0, 0, 0, 0), (.aload_n 0, 48, 0, 0, 0, 0), (.getfield 13, 51, 0, 4, 9, 952), x_0, x_0, (.iload_n 1, 52, 0, 0, 0, 0), (.iaload, 53, 0, 0, 0, 0), (.iload 5, 55, 0, 0, 0, 0), x_0, (.aload_n 0, 56, 0, 0, 0, 0), (.getfield 19, 59, 0, 6, 9, 954), x_0, x_0, (.iload_n 1, 60, 0, 0, 0, 0), (.iaload, 61, 0, 0, 0, 0), (.invokevirtual 277, 64, 226, 5, 9, 1358), x_0, x_0, (.ifCond .eq 10, 67, 74, 0, 0, 0), x_0, x_0, (.iconst 1, 68, 0, 0, 0, 0), (.iload 5, 70, 0, 0, 0, 0), x_0, (.ishl, 71, 0, 0, 0, 0), (.goto 4, 74, 75, 0, 0, 0), x_0, x_0, (.iconst 0, 75, 0, 0, 0, 0), (.ior, 76, 0, 0, 0, 0), (.istore 4, 78, 0, 0, 0, 0), x_0, (.iinc 5 1, 81, 0, 0, 0, 0), x_0, x_0, (.goto (-46), 84, 35, 0, 0, 0), x_0, x_0, (.iload 4, 86, 0, 0, 0, 0), x_0, (.ireturn, 87, 0, 0, 0, 0)])
def mX9_speeds : XM := (yX9_speeds, cX9_speeds, 6, (some (.int)), [(.aload_n 0, 1, 0, 0, 0, 0), (.iload_n 1, 2, 0, 0, 0, 0), (.invokevirtual 187, 5, 176, 1, 9, 1154), x_0, x_0, (.ifCond .eq 10, 8, 15, 0, 0, 0), x_0, x_0, (.iload_n 2, 9, 0, 0, 0, 0), (.invokestatic 83, 12, 153, 1, 9, 1052), x_0, x_0, (.ifCond .ne 5, 15, 17, 0, 0, 0), x_0, x_0, (.iconst (-1), 16, 0, 0, 0, 0), (.ireturn, 17, 0, 0, 0, 0), (.aload_n 0, 18, 0, 0, 0, 0), (.iload_n 2, 19, 0, 0, 0, 0), (.invokevirtual 274, 22, 225, 1, 9, 1353), x_0, x_0, (.istore_n 3, 23, 0, 0, 0, 0), (.iload_n 3, 24, 0, 0, 0, 0), (.ifCond .eq 5, 27, 29, 0, 0, 0), x_0, x_0, (.iload_n 3, 28, 0, 0, 0, 0), (.ireturn, 29, 0, 0, 0, 0), (.iconst 0, 30, 0, 0, 0, 0), (.istore 4, 32, 0, 0, 0, 0), x_0, (.bipush (-2), 34, 0, 0, 0, 0), x_0, (.istore 5, 36, 0, 0, 0, 0), x_0, (.iload 5, 38, 0, 0, 0, 0), x_0, (.iconst 4, 39, 0, 0, 0, 0), (.if_icmp .ge 46, 42, 85, 0, 0, 0), x_0, x_0, (.iload 4, 44, 0, 0, 0, 0), x_0, (.aload_n 0, 45, 0, 0, 0, 0), (.iload_n 1, 46, 0, 0, 0, 0), (.iload_n 2, 47, 0, 0, 0, 0), (.aload_n 0, 48, 0, 0, 0, 0), (.getfield 13, 51, 0, 4, 9, 952), x_0, x_0, (.iload_n 1, 52, 0, 0, 0, 0), (.iaload, 53, 0, 0, 0, 0), (.aload_n 0, 54, 0, 0, 0, 0), (.iload_n 1, 55, 0, 0, 0, 0), (.invokevirtual 184, 58, 180, 1, 9, 1162), x_0, x_0, (.iload 5, 60, 0, 0, 0, 0), x_0, (.invokevirtual 277, 63, 226, 5, 9, 1358), x_0, x_0, (.ifCond .eq 12, 66, 75, 0, 0, 0), x_0, x_0, (.iconst 1, 67, 0, 0, 0, 0), (.iload 5, 69, 0, 0, 0, 0), x_0, (.iconst 2, 70, 0, 0, 0, 0), (.iadd, 71, 0, 0, 0, 0), (.ishl, 72, 0, 0, 0, 0), (.goto 4, 75, 76, 0, 0, 0), x_0, x_0, (.iconst 0, 76, 0, 0, 0, 0), (.ior, 77, 0, 0, 0, 0), (.istore 4, 79, 0, 0, 0, 0), x_0, (.iinc 5 1, 82, 0, 0, 0, 0), x_0, x_0, (.goto (-46), 85, 36, 0, 0, 0), x_0, x_0, (.iload 4, 87, 0, 0, 0, 0), x_0, (.ireturn, 88, 0, 0, 0, 0)])
def mX9_fainter : XM := (yX9_fainter, cX9_fainter, 6, (some (.int)), [(.aload_n 0, 1, 0, 0, 0, 0), (.iload_n 1, 2, 0, 0, 0, 0), (.invokevirtual 187, 5, 176, 1, 9, 1154), x_0, x_0, (.ifCond .eq 10, 8, 15, 0, 0, 0), x_0, x_0, (.iload_n 2, 9, 0, 0, 0, 0), (.invokestatic 83, 12, 153, 1, 9, 1052), x_0, x_0, (.ifCond .ne 5, 15, 17, 0, 0, 0), x_0, x_0, (.iconst (-1), 16, 0, 0, 0, 0), (.ireturn, 17, 0, 0, 0, 0), (.aload_n 0, 18, 0, 0, 0, 0), (.iload_n 2, 19, 0, 0, 0, 0), (.invokevirtual 274, 22, 225, 1, 9, 1353), x_0, x_0, (.istore_n 3, 23, 0, 0, 0, 0), (.iload_n 3, 24, 0, 0, 0, 0), (.ifCond .eq 5, 27, 29, 0, 0, 0), x_0, x_0, (.iload_n 3, 28, 0, 0, 0, 0), (.ireturn, 29, 0, 0, 0, 0), (.aload_n 0, 30, 0, 0, 0, 0), (.bipush (-9), 32, 0, 0, 0, 0), x_0, (.putfield 72, 35, 0, 12, 9, 960), x_0, x_0, (.aload_n 0, 36, 0, 0, 0, 0), (.getfield 25, 39, 0, 8, 9, 956), x_0, x_0, (.iload_n 2, 40, 0, 0, 0, 0), (.iaload, 41, 0, 0, 0, 0), (.iconst 1, 42, 0, 0, 0, 0), (.isub, 43, 0, 0, 0, 0), (.istore 4, 45, 0, 0, 0, 0), x_0, (.iload 4, 47, 0, 0, 0, 0), x_0, (.ifCond .le 51, 50, 98, 0, 0, 0), x_0, x_0, (.aload_n 0, 51, 0, 0, 0, 0), (.aload_n 0, 52, 0, 0, 0, 0), (.getfield 28, 55, 0, 9, 9, 957), x_0, x_0, (.bipush 40, 57, 0, 0, 0, 0), x_0, (.iload_n 2, 58, 0, 0, 0, 0), (.imul, 59, 0, 0, 0, 0), (.iload 4, 61, 0, 0, 0, 0), x_0, (.iadd, 62, 0, 0, 0, 0), (.iaload, 63, 0, 0, 0, 0), (.aload_n 0, 64, 0, 0, 0, 0), (.getfield 28, 67, 0, 9, 9, 957), x_0, x_0, (.bipush 40, 69, 0, 0, 0, 0), x_0, (.iload_n 2, 70, 0, 0, 0, 0), (.imul, 71, 0, 0, 0, 0), (.iload 4, 73, 0, 0, 0, 0), x_0, (.iadd, 74, 0, 0, 0, 0), (.iconst 1, 75, 0, 0, 0, 0), (.isub, 76, 0, 0, 0, 0), (.iaload, 77, 0, 0, 0, 0), (.if_icmp .ge 8, 80, 85, 0, 0, 0), x_0, x_0, (.iload 4, 82, 0, 0, 0, 0), x_0, (.goto 7, 85, 89, 0, 0, 0), x_0, x_0, (.aload_n 0, 86, 0, 0, 0, 0), (.getfield 72, 89, 0, 12, 9, 960), x_0, x_0, (.putfield 72, 92, 0, 12, 9, 960), x_0, x_0, (.iinc 4 (-1), 95, 0, 0, 0, 0), x_0, x_0, (.goto (-50), 98, 45, 0, 0, 0), x_0, x_0, (.aload_n 0, 99, 0, 0, 0, 0), (.getfield 72, 102, 0, 12, 9, 960), x_0, x_0, (.bipush (-9), 104, 0, 0, 0, 0), x_0, (.if_icmp .ne 5, 107, 109, 0, 0, 0), x_0, x_0, (.iconst 0, 108, 0, 0, 0, 0), (.ireturn, 109, 0, 0, 0, 0), (.aload_n 0, 110, 0, 0, 0, 0), (.getfield 7, 113, 0, 0, 9, 948), x_0, x_0, (.iconst 1, 114, 0, 0, 0, 0), (.iaload, 115, 0, 0, 0, 0), (.aload_n 0, 116, 0, 0, 0, 0), (.getfield 72, 119, 0, 12, 9, 960), x_0, x_0, (.iadd, 120, 0, 0, 0, 0), (.istore 4, 122, 0, 0, 0, 0), x_0, (.aload_n 0, 123, 0, 0, 0, 0), (.iload_n 1, 124, 0, 0, 0, 0), (.iload 4, 126, 0, 0, 0, 0), x_0, (.invokevirtual 175, 129, 182, 2, 9, 1176), x_0, x_0, (.aload_n 0, 130, 0, 0, 0, 0), (.iload_n 1, 131, 0, 0, 0, 0), (.iload 4, 133, 0, 0, 0, 0), x_0, (.iconst 1, 134, 0, 0, 0, 0), (.isub, 135, 0, 0, 0, 0), (.invokevirtual 175, 138, 182, 2, 9, 1176), x_0, x_0, (.if_icmp .ge 7, 141, 145, 0, 0, 0), x_0, x_0, (.iconst 1, 142, 0, 0, 0, 0), (.goto 4, 145, 146, 0, 0, 0), x_0, x_0, (.iconst 0, 146, 0, 0, 0, 0), (.istore 5, 148, 0, 0, 0, 0), x_0, (.iload 5, 150, 0, 0, 0, 0), x_0, (.aload_n 0, 151, 0, 0, 0, 0), (.aload_n 0, 152, 0, 0, 0, 0), (.iload_n 1, 153, 0, 0, 0, 0), (.iload 4, 155, 0, 0, 0, 0), x_0, (.invokevirtual 169, 158, 179, 2, 9, 1166), x_0, x_0, (.aload_n 0, 159, 0, 0, 0, 0), (.getfield 7, 162, 0, 0, 9, 948), x_0, x_0, (.iconst 2, 163, 0, 0, 0, 0), (.iaload, 164, 0, 0, 0, 0), (.invokevirtual 178, 167, 183, 2, 9, 1187), x_0, x_0, (.aload_n 0, 168, 0, 0, 0, 0), (.aload_n 0, 169, 0, 0, 0, 0), (.iload_n 1, 170, 0, 0, 0, 0), (.iload 4, 172, 0, 0, 0, 0), x_0, (.iconst 1, 173, 0, 0, 0, 0), (.isub, 174, 0, 0, 0, 0), (.invokevirtual 169, 177, 179, 2, 9, 1166), x_0, x_0, (.aload_n 0, 178, 0, 0, 0, 0), (.getfield 7, 181, 0, 0, 9, 948), x_0, x_0, (.iconst 2, 182, 0, 0, 0, 0), (.iaload, 183, 0, 0, 0, 0), (.invokevirtual 178, 186, 183, 2, 9, 1187), x_0, x_0, (.if_icmp .ge 7, 189, 193, 0, 0, 0), x_0, x_0, (.iconst 2, 190, 0, 0, 0, 0), (.goto 4, 193, 194, 0, 0, 0), x_0, x_0, (.iconst 0, 194, 0, 0, 0, 0), (.iadd, 195, 0, 0, 0, 0), (.ireturn, 196, 0, 0, 0, 0)])
def mX9_worseOf : XM := (yX9_worseOf, cX9_worseOf, 7, (some (.int)), [(.aload_n 0, 1, 0, 0, 0, 0), (.getfield 62, 4, 0, 29, 9, 977), x_0, x_0, (.bipush 24, 6, 0, 0, 0, 0), x_0, (.iload_n 3, 7, 0, 0, 0, 0), (.imul, 8, 0, 0, 0, 0), (.iload 4, 10, 0, 0, 0, 0), x_0, (.iadd, 11, 0, 0, 0, 0), (.iaload, 12, 0, 0, 0, 0), (.aload_n 0, 13, 0, 0, 0, 0), (.iload_n 1, 14, 0, 0, 0, 0), (.iload 4, 16, 0, 0, 0, 0), x_0, (.iload_n 2, 17, 0, 0, 0, 0), (.invokevirtual 181, 20, 184, 3, 9, 1183), x_0, x_0, (.iadd, 21, 0, 0, 0, 0), (.istore 5, 23, 0, 0, 0, 0), x_0, (.iload_n 3, 24, 0, 0, 0, 0), (.ifCond .ne 8, 27, 32, 0, 0, 0), x_0, x_0, (.iload 5, 29, 0, 0, 0, 0), x_0, (.goto 17, 32, 46, 0, 0, 0), x_0, x_0, (.aload_n 0, 33, 0, 0, 0, 0), (.getfield 62, 36, 0, 29, 9, 977), x_0, x_0, (.bipush 24, 38, 0, 0, 0, 0), x_0, (.iload_n 3, 39, 0, 0, 0, 0), (.iconst 1, 40, 0, 0, 0, 0), (.isub, 41, 0, 0, 0, 0), (.imul, 42, 0, 0, 0, 0), (.iload 4, 44, 0, 0, 0, 0), x_0, (.iadd, 45, 0, 0, 0, 0), (.iaload, 46, 0, 0, 0, 0), (.istore 6, 48, 0, 0, 0, 0), x_0, (.iload 6, 50, 0, 0, 0, 0), x_0, (.iload 5, 52, 0, 0, 0, 0), x_0, (.if_icmp .ge 8, 55, 60, 0, 0, 0), x_0, x_0, (.iload 6, 57, 0, 0, 0, 0), x_0, (.goto 5, 60, 62, 0, 0, 0), x_0, x_0, (.iload 5, 62, 0, 0, 0, 0), x_0, (.ireturn, 63, 0, 0, 0, 0)])
def mX9_cloud : XM := (yX9_cloud, cX9_cloud, 7, (some (.int)), [(.aload_n 0, 1, 0, 0, 0, 0), (.iload_n 1, 2, 0, 0, 0, 0), (.invokevirtual 187, 5, 176, 1, 9, 1154), x_0, x_0, (.ifCond .eq 15, 8, 20, 0, 0, 0), x_0, x_0, (.iload_n 2, 9, 0, 0, 0, 0), (.i2l, 10, 0, 0, 0, 0), (.lconst 0, 11, 0, 0, 0, 0), (.ldc2_w 281, 14, 4, 0, 0, 1378), x_0, x_0, (.invokestatic 77, 17, 149, 3, 9, 1056), x_0, x_0, (.ifCond .ne 5, 20, 22, 0, 0, 0), x_0, x_0, (.iconst (-1), 21, 0, 0, 0, 0), (.ireturn, 22, 0, 0, 0, 0), (.iconst 0, 23, 0, 0, 0, 0), (.istore_n 3, 24, 0, 0, 0, 0), (.iload_n 3, 25, 0, 0, 0, 0), (.bipush 72, 27, 0, 0, 0, 0), x_0, (.if_icmp .ge 16, 30, 43, 0, 0, 0), x_0, x_0, (.aload_n 0, 31, 0, 0, 0, 0), (.getfield 62, 34, 0, 29, 9, 977), x_0, x_0, (.iload_n 3, 35, 0, 0, 0, 0), (.iconst 0, 36, 0, 0, 0, 0), (.iastore, 37, 0, 0, 0, 0), (.iinc 3 1, 40, 0, 0, 0, 0), x_0, x_0, (.goto (-16), 43, 24, 0, 0, 0), x_0, x_0, (.iload_n 2, 44, 0, 0, 0, 0), (.iconst 1, 45, 0, 0, 0, 0), (.isub, 46, 0, 0, 0, 0), (.istore_n 3, 47, 0, 0, 0, 0), (.iload_n 3, 48, 0, 0, 0, 0), (.ifCond .lt 141, 51, 189, 0, 0, 0), x_0, x_0, (.iconst 0, 52, 0, 0, 0, 0), (.istore 4, 54, 0, 0, 0, 0), x_0, (.iload 4, 56, 0, 0, 0, 0), x_0, (.bipush 72, 58, 0, 0, 0, 0), x_0, (.if_icmp .ge 95, 61, 153, 0, 0, 0), x_0, x_0, (.aload_n 0, 62, 0, 0, 0, 0), (.getfield 65, 65, 0, 30, 9, 978), x_0, x_0, (.iload 4, 67, 0, 0, 0, 0), x_0, (.iconst 0, 68, 0, 0, 0, 0), (.iastore, 69, 0, 0, 0, 0), (.bipush (-2), 71, 0, 0, 0, 0), x_0, (.istore 5, 73, 0, 0, 0, 0), x_0, (.iload 5, 75, 0, 0, 0, 0), x_0, (.iconst 3, 76, 0, 0, 0, 0), (.if_icmp .ge 71, 79, 147, 0, 0, 0), x_0, x_0, (.aload_n 0, 80, 0, 0, 0, 0), (.iload_n 1, 81, 0, 0, 0, 0), (.aload_n 0, 82, 0, 0, 0, 0), (.getfield 7, 85, 0, 0, 9, 948), x_0, x_0, (.iconst 1, 86, 0, 0, 0, 0), (.iaload, 87, 0, 0, 0, 0), (.iload_n 3, 88, 0, 0, 0, 0), (.iadd, 89, 0, 0, 0, 0), (.iload 4, 91, 0, 0, 0, 0), x_0, (.bipush 24, 93, 0, 0, 0, 0), x_0, (.idiv, 94, 0, 0, 0, 0), (.iload 4, 96, 0, 0, 0, 0), x_0, (.bipush 24, 98, 0, 0, 0, 0), x_0, (.irem, 99, 0, 0, 0, 0), (.iload 5, 101, 0, 0, 0, 0), x_0, (.iadd, 102, 0, 0, 0, 0), (.invokestatic 166, 105, 177, 1, 9, 1173), x_0, x_0, (.invokevirtual 283, 108, 231, 4, 9, 1379), x_0, x_0, (.istore 6, 110, 0, 0, 0, 0), x_0, (.aload_n 0, 111, 0, 0, 0, 0), (.getfield 65, 114, 0, 30, 9, 978), x_0, x_0, (.iload 4, 116, 0, 0, 0, 0), x_0, (.iload 6, 118, 0, 0, 0, 0), x_0, (.aload_n 0, 119, 0, 0, 0, 0), (.getfield 65, 122, 0, 30, 9, 978), x_0, x_0, (.iload 4, 124, 0, 0, 0, 0), x_0, (.iaload, 125, 0, 0, 0, 0), (.if_icmp .le 8, 128, 133, 0, 0, 0), x_0, x_0, (.iload 6, 130, 0, 0, 0, 0), x_0, (.goto 10, 133, 140, 0, 0, 0), x_0, x_0, (.aload_n 0, 134, 0, 0, 0, 0), (.getfield 65, 137, 0, 30, 9, 978), x_0, x_0, (.iload 4, 139, 0, 0, 0, 0), x_0, (.iaload, 140, 0, 0, 0, 0), (.iastore, 141, 0, 0, 0, 0), (.iinc 5 1, 144, 0, 0, 0, 0), x_0, x_0, (.goto (-71), 147, 73, 0, 0, 0), x_0, x_0, (.iinc 4 1, 150, 0, 0, 0, 0), x_0, x_0, (.goto (-96), 153, 54, 0, 0, 0), x_0, x_0, (.iconst 0, 154, 0, 0, 0, 0), (.istore 4, 156, 0, 0, 0, 0), x_0, (.iload 4, 158, 0, 0, 0, 0), x_0, (.bipush 72, 160, 0, 0, 0, 0), x_0, (.if_icmp .ge 23, 163, 183, 0, 0, 0), x_0, x_0, (.aload_n 0, 164, 0, 0, 0, 0), (.getfield 62, 167, 0, 29, 9, 977), x_0, x_0, (.iload 4, 169, 0, 0, 0, 0), x_0, (.aload_n 0, 170, 0, 0, 0, 0), (.getfield 65, 173, 0, 30, 9, 978), x_0, x_0, (.iload 4, 175, 0, 0, 0, 0), x_0, (.iaload, 176, 0, 0, 0, 0), (.iastore, 177, 0, 0, 0, 0), (.iinc 4 1, 180, 0, 0, 0, 0), x_0, x_0, (.goto (-24), 183, 156, 0, 0, 0), x_0, x_0, (.iinc 3 (-1), 186, 0, 0, 0, 0), x_0, x_0, (.goto (-139), 189, 47, 0, 0, 0), x_0, x_0, (.aload_n 0, 190, 0, 0, 0, 0), (.getfield 62, 193, 0, 29, 9, 977), x_0, x_0, (.bipush 24, 195, 0, 0, 0, 0), x_0, (.iload_n 2, 196, 0, 0, 0, 0), (.iconst 2, 197, 0, 0, 0, 0), (.idiv, 198, 0, 0, 0, 0), (.imul, 199, 0, 0, 0, 0), (.aload_n 0, 200, 0, 0, 0, 0), (.getfield 7, 203, 0, 0, 9, 948), x_0, x_0, (.iconst 2, 204, 0, 0, 0, 0), (.iaload, 205, 0, 0, 0, 0), (.iadd, 206, 0, 0, 0, 0), (.iaload, 207, 0, 0, 0, 0), (.ireturn, 208, 0, 0, 0, 0)])
def mX9_tellParts : XM := (yX9_tellParts, cX9_tellParts, 11, (some (.int)), [(.lload_n 1, 1, 0, 0, 0, 0), (.lstore 5, 3, 0, 0, 0, 0), x_0, (.lload_n 3, 4, 0, 0, 0, 0), (.lstore 7, 6, 0, 0, 0, 0), x_0, (.lload 7, 8, 0, 0, 0, 0), x_0, (.lconst 0, 9, 0, 0, 0, 0), (.lcmp, 10, 0, 0, 0, 0), (.ifCond .eq 21, 13, 31, 0, 0, 0), x_0, x_0, (.lload 5, 15, 0, 0, 0, 0), x_0, (.lload 7, 17, 0, 0, 0, 0), x_0, (.lrem, 18, 0, 0, 0, 0), (.lstore 9, 20, 0, 0, 0, 0), x_0, (.lload 7, 22, 0, 0, 0, 0), x_0, (.lstore 5, 24, 0, 0, 0, 0), x_0, (.lload 9, 26, 0, 0, 0, 0), x_0, (.lstore 7, 28, 0, 0, 0, 0), x_0, (.goto (-22), 31, 6, 0, 0, 0), x_0, x_0, (.aload_n 0, 32, 0, 0, 0, 0), (.lload_n 1, 33, 0, 0, 0, 0), (.lload 5, 35, 0, 0, 0, 0), x_0, (.ldiv, 36, 0, 0, 0, 0), (.putfield 287, 39, 0, 13, 9, 961), x_0, x_0, (.aload_n 0, 40, 0, 0, 0, 0), (.lload_n 3, 41, 0, 0, 0, 0), (.lload 5, 43, 0, 0, 0, 0), x_0, (.ldiv, 44, 0, 0, 0, 0), (.putfield 37, 47, 0, 14, 9, 962), x_0, x_0, (.iconst 1, 48, 0, 0, 0, 0), (.ireturn, 49, 0, 0, 0, 0)])
def mX9_layAsleep : XM := (yX9_layAsleep, cX9_layAsleep, 7, none, [(.aload_n 0, 1, 0, 0, 0, 0), (.getfield 7, 4, 0, 0, 9, 948), x_0, x_0, (.iconst 2, 5, 0, 0, 0, 0), (.iaload, 6, 0, 0, 0, 0), (.istore 4, 8, 0, 0, 0, 0), x_0, (.aload_n 0, 9, 0, 0, 0, 0), (.iconst 0, 10, 0, 0, 0, 0), (.putfield 290, 13, 0, 31, 9, 979), x_0, x_0, (.aload_n 0, 14, 0, 0, 0, 0), (.iconst 1, 15, 0, 0, 0, 0), (.putfield 293, 18, 0, 32, 9, 980), x_0, x_0, (.iconst 0, 19, 0, 0, 0, 0), (.istore 5, 21, 0, 0, 0, 0), x_0, (.iload 5, 23, 0, 0, 0, 0), x_0, (.aload_n 0, 24, 0, 0, 0, 0), (.getfield 25, 27, 0, 8, 9, 956), x_0, x_0, (.iload_n 2, 28, 0, 0, 0, 0), (.iaload, 29, 0, 0, 0, 0), (.if_icmp .ge 93, 32, 122, 0, 0, 0), x_0, x_0, (.iload_n 3, 33, 0, 0, 0, 0), (.iload 5, 35, 0, 0, 0, 0), x_0, (.invokestatic 297, 38, 150, 2, 9, 1396), x_0, x_0, (.ifCond .eq 8, 41, 46, 0, 0, 0), x_0, x_0, (.iload 4, 43, 0, 0, 0, 0), x_0, (.goto 21, 46, 64, 0, 0, 0), x_0, x_0, (.iload 4, 48, 0, 0, 0, 0), x_0, (.aload_n 0, 49, 0, 0, 0, 0), (.getfield 28, 52, 0, 9, 9, 957), x_0, x_0, (.bipush 40, 54, 0, 0, 0, 0), x_0, (.iload_n 2, 55, 0, 0, 0, 0), (.imul, 56, 0, 0, 0, 0), (.iload 5, 58, 0, 0, 0, 0), x_0, (.iadd, 59, 0, 0, 0, 0), (.iaload, 60, 0, 0, 0, 0), (.iadd, 61, 0, 0, 0, 0), (.invokestatic 166, 64, 177, 1, 9, 1173), x_0, x_0, (.istore 4, 66, 0, 0, 0, 0), x_0, (.aload_n 0, 67, 0, 0, 0, 0), (.iload_n 1, 68, 0, 0, 0, 0), (.iload 4, 70, 0, 0, 0, 0), x_0, (.aload_n 0, 71, 0, 0, 0, 0), (.getfield 7, 74, 0, 0, 9, 948), x_0, x_0, (.iconst 1, 75, 0, 0, 0, 0), (.iaload, 76, 0, 0, 0, 0), (.iload 5, 78, 0, 0, 0, 0), x_0, (.iadd, 79, 0, 0, 0, 0), (.invokevirtual 181, 82, 184, 3, 9, 1183), x_0, x_0, (.istore 6, 84, 0, 0, 0, 0), x_0, (.aload_n 0, 85, 0, 0, 0, 0), (.dup, 86, 0, 0, 0, 0), (.getfield 290, 89, 0, 31, 9, 979), x_0, x_0, (.iload 6, 91, 0, 0, 0, 0), x_0, (.iadd, 92, 0, 0, 0, 0), (.putfield 290, 95, 0, 31, 9, 979), x_0, x_0, (.aload_n 0, 96, 0, 0, 0, 0), (.aload_n 0, 97, 0, 0, 0, 0), (.getfield 293, 100, 0, 32, 9, 980), x_0, x_0, (.ifCond .eq 12, 103, 112, 0, 0, 0), x_0, x_0, (.iload 6, 105, 0, 0, 0, 0), x_0, (.ifCond .le 7, 108, 112, 0, 0, 0), x_0, x_0, (.iconst 1, 109, 0, 0, 0, 0), (.goto 4, 112, 113, 0, 0, 0), x_0, x_0, (.iconst 0, 113, 0, 0, 0, 0), (.putfield 293, 116, 0, 32, 9, 980), x_0, x_0, (.iinc 5 1, 119, 0, 0, 0, 0), x_0, x_0, (.goto (-98), 122, 21, 0, 0, 0), x_0, x_0, (.return_, 123, 0, 0, 0, 0)])
def mX9_waysOf : XM := (yX9_waysOf, cX9_waysOf, 8, (some (.long)), [(.lconst 1, 1, 0, 0, 0, 0), (.lstore 4, 3, 0, 0, 0, 0), x_0, (.iconst 0, 4, 0, 0, 0, 0), (.istore 6, 6, 0, 0, 0, 0), x_0, (.iload 6, 8, 0, 0, 0, 0), x_0, (.aload_n 0, 9, 0, 0, 0, 0), (.getfield 25, 12, 0, 8, 9, 956), x_0, x_0, (.iload_n 1, 13, 0, 0, 0, 0), (.iaload, 14, 0, 0, 0, 0), (.if_icmp .ge 77, 17, 91, 0, 0, 0), x_0, x_0, (.aload_n 0, 18, 0, 0, 0, 0), (.getfield 28, 21, 0, 9, 9, 957), x_0, x_0, (.bipush 40, 23, 0, 0, 0, 0), x_0, (.iload_n 1, 24, 0, 0, 0, 0), (.imul, 25, 0, 0, 0, 0), (.iload 6, 27, 0, 0, 0, 0), x_0, (.iadd, 28, 0, 0, 0, 0), (.iaload, 29, 0, 0, 0, 0), (.ifCond .eq 7, 32, 36, 0, 0, 0), x_0, x_0, (.iconst 1, 33, 0, 0, 0, 0), (.goto 4, 36, 37, 0, 0, 0), x_0, x_0, (.iconst 0, 37, 0, 0, 0, 0), (.istore 7, 39, 0, 0, 0, 0), x_0, (.lload 4, 41, 0, 0, 0, 0), x_0, (.iload 7, 43, 0, 0, 0, 0), x_0, (.ifCond .eq 25, 46, 68, 0, 0, 0), x_0, x_0, (.iload_n 2, 47, 0, 0, 0, 0), (.iload 6, 49, 0, 0, 0, 0), x_0, (.invokestatic 297, 52, 150, 2, 9, 1396), x_0, x_0, (.ifCond .eq 8, 55, 60, 0, 0, 0), x_0, x_0, (.iload_n 3, 56, 0, 0, 0, 0), (.i2l, 57, 0, 0, 0, 0), (.goto 25, 60, 82, 0, 0, 0), x_0, x_0, (.bipush 12, 62, 0, 0, 0, 0), x_0, (.iload_n 3, 63, 0, 0, 0, 0), (.isub, 64, 0, 0, 0, 0), (.i2l, 65, 0, 0, 0, 0), (.goto 17, 68, 82, 0, 0, 0), x_0, x_0, (.iload_n 2, 69, 0, 0, 0, 0), (.iload 6, 71, 0, 0, 0, 0), x_0, (.invokestatic 297, 74, 150, 2, 9, 1396), x_0, x_0, (.ifCond .eq 7, 77, 81, 0, 0, 0), x_0, x_0, (.lconst 0, 78, 0, 0, 0, 0), (.goto 4, 81, 82, 0, 0, 0), x_0, x_0, (.lconst 1, 82, 0, 0, 0, 0), (.lmul, 83, 0, 0, 0, 0), (.lstore 4, 85, 0, 0, 0, 0), x_0, (.iinc 6 1, 88, 0, 0, 0, 0), x_0, x_0, (.goto (-82), 91, 6, 0, 0, 0), x_0, x_0, (.lload 4, 93, 0, 0, 0, 0), x_0, (.lreturn, 94, 0, 0, 0, 0)])
def mX9_tellAsleep : XM := (yX9_tellAsleep, cX9_tellAsleep, 12, (some (.int)), [(.lconst 0, 1, 0, 0, 0, 0), (.lstore 5, 3, 0, 0, 0, 0), x_0, (.lconst 0, 4, 0, 0, 0, 0), (.lstore 7, 6, 0, 0, 0, 0), x_0, (.iconst 0, 7, 0, 0, 0, 0), (.istore 9, 9, 0, 0, 0, 0), x_0, (.iload 9, 11, 0, 0, 0, 0), x_0, (.iconst 1, 12, 0, 0, 0, 0), (.aload_n 0, 13, 0, 0, 0, 0), (.getfield 25, 16, 0, 8, 9, 956), x_0, x_0, (.iload_n 2, 17, 0, 0, 0, 0), (.iaload, 18, 0, 0, 0, 0), (.ishl, 19, 0, 0, 0, 0), (.if_icmp .ge 68, 22, 87, 0, 0, 0), x_0, x_0, (.aload_n 0, 23, 0, 0, 0, 0), (.iload_n 2, 24, 0, 0, 0, 0), (.iload 9, 26, 0, 0, 0, 0), x_0, (.iload_n 3, 27, 0, 0, 0, 0), (.invokevirtual 300, 30, 235, 3, 9, 1392), x_0, x_0, (.lstore 10, 32, 0, 0, 0, 0), x_0, (.aload_n 0, 33, 0, 0, 0, 0), (.iload_n 1, 34, 0, 0, 0, 0), (.iload_n 2, 35, 0, 0, 0, 0), (.iload 9, 37, 0, 0, 0, 0), x_0, (.invokevirtual 304, 40, 234, 3, 9, 1399), x_0, x_0, (.lload 5, 42, 0, 0, 0, 0), x_0, (.iload 4, 44, 0, 0, 0, 0), x_0, (.ifCond .eq 19, 47, 63, 0, 0, 0), x_0, x_0, (.aload_n 0, 48, 0, 0, 0, 0), (.getfield 293, 51, 0, 32, 9, 980), x_0, x_0, (.ifCond .eq 8, 54, 59, 0, 0, 0), x_0, x_0, (.lload 10, 56, 0, 0, 0, 0), x_0, (.goto 15, 59, 71, 0, 0, 0), x_0, x_0, (.lconst 0, 60, 0, 0, 0, 0), (.goto 11, 63, 71, 0, 0, 0), x_0, x_0, (.lload 10, 65, 0, 0, 0, 0), x_0, (.aload_n 0, 66, 0, 0, 0, 0), (.getfield 290, 69, 0, 31, 9, 979), x_0, x_0, (.i2l, 70, 0, 0, 0, 0), (.lmul, 71, 0, 0, 0, 0), (.ladd, 72, 0, 0, 0, 0), (.lstore 5, 74, 0, 0, 0, 0), x_0, (.lload 7, 76, 0, 0, 0, 0), x_0, (.lload 10, 78, 0, 0, 0, 0), x_0, (.ladd, 79, 0, 0, 0, 0), (.lstore 7, 81, 0, 0, 0, 0), x_0, (.iinc 9 1, 84, 0, 0, 0, 0), x_0, x_0, (.goto (-75), 87, 9, 0, 0, 0), x_0, x_0, (.aload_n 0, 88, 0, 0, 0, 0), (.lload 5, 90, 0, 0, 0, 0), x_0, (.lload 7, 92, 0, 0, 0, 0), x_0, (.invokevirtual 308, 95, 233, 2, 9, 1403), x_0, x_0, (.ireturn, 96, 0, 0, 0, 0)])
def mX9_mid : XM := (yX9_mid, cX9_mid, 5, (some (.int)), [(.aload_n 0, 1, 0, 0, 0, 0), (.iload_n 1, 2, 0, 0, 0, 0), (.invokevirtual 187, 5, 176, 1, 9, 1154), x_0, x_0, (.ifCond .eq 22, 8, 27, 0, 0, 0), x_0, x_0, (.iload_n 2, 9, 0, 0, 0, 0), (.invokestatic 83, 12, 153, 1, 9, 1052), x_0, x_0, (.ifCond .eq 15, 15, 27, 0, 0, 0), x_0, x_0, (.iload_n 3, 16, 0, 0, 0, 0), (.i2l, 17, 0, 0, 0, 0), (.lconst 0, 18, 0, 0, 0, 0), (.ldc2_w 312, 21, 12, 0, 0, 1387), x_0, x_0, (.invokestatic 77, 24, 149, 3, 9, 1056), x_0, x_0, (.ifCond .ne 5, 27, 29, 0, 0, 0), x_0, x_0, (.iconst (-1), 28, 0, 0, 0, 0), (.ireturn, 29, 0, 0, 0, 0), (.aload_n 0, 30, 0, 0, 0, 0), (.iload_n 2, 31, 0, 0, 0, 0), (.invokevirtual 264, 34, 220, 1, 9, 1329), x_0, x_0, (.istore 4, 36, 0, 0, 0, 0), x_0, (.iload 4, 38, 0, 0, 0, 0), x_0, (.ifCond .eq 8, 41, 46, 0, 0, 0), x_0, x_0, (.iload 4, 43, 0, 0, 0, 0), x_0, (.goto 11, 46, 54, 0, 0, 0), x_0, x_0, (.aload_n 0, 47, 0, 0, 0, 0), (.iload_n 1, 48, 0, 0, 0, 0), (.iload_n 2, 49, 0, 0, 0, 0), (.iload_n 3, 50, 0, 0, 0, 0), (.iconst 0, 51, 0, 0, 0, 0), (.invokevirtual 314, 54, 236, 4, 9, 1388), x_0, x_0, (.ireturn, 55, 0, 0, 0, 0)])
def mX9_odds : XM := (yX9_odds, cX9_odds, 5, (some (.int)), [(.aload_n 0, 1, 0, 0, 0, 0), (.iload_n 1, 2, 0, 0, 0, 0), (.invokevirtual 187, 5, 176, 1, 9, 1154), x_0, x_0, (.ifCond .eq 22, 8, 27, 0, 0, 0), x_0, x_0, (.iload_n 2, 9, 0, 0, 0, 0), (.invokestatic 83, 12, 153, 1, 9, 1052), x_0, x_0, (.ifCond .eq 15, 15, 27, 0, 0, 0), x_0, x_0, (.iload_n 3, 16, 0, 0, 0, 0), (.i2l, 17, 0, 0, 0, 0), (.lconst 0, 18, 0, 0, 0, 0), (.ldc2_w 312, 21, 12, 0, 0, 1387), x_0, x_0, (.invokestatic 77, 24, 149, 3, 9, 1056), x_0, x_0, (.ifCond .ne 5, 27, 29, 0, 0, 0), x_0, x_0, (.iconst (-1), 28, 0, 0, 0, 0), (.ireturn, 29, 0, 0, 0, 0), (.aload_n 0, 30, 0, 0, 0, 0), (.iload_n 2, 31, 0, 0, 0, 0), (.invokevirtual 264, 34, 220, 1, 9, 1329), x_0, x_0, (.istore 4, 36, 0, 0, 0, 0), x_0, (.iload 4, 38, 0, 0, 0, 0), x_0, (.ifCond .eq 8, 41, 46, 0, 0, 0), x_0, x_0, (.iload 4, 43, 0, 0, 0, 0), x_0, (.goto 11, 46, 54, 0, 0, 0), x_0, x_0, (.aload_n 0, 47, 0, 0, 0, 0), (.iload_n 1, 48, 0, 0, 0, 0), (.iload_n 2, 49, 0, 0, 0, 0), (.iload_n 3, 50, 0, 0, 0, 0), (.iconst 1, 51, 0, 0, 0, 0), (.invokevirtual 314, 54, 236, 4, 9, 1388), x_0, x_0, (.ireturn, 55, 0, 0, 0, 0)])
def mX9_lots : XM := (yX9_lots, cX9_lots, 8, (some (.int)), [(.iload_n 1, 1, 0, 0, 0, 0), (.i2l, 2, 0, 0, 0, 0), (.lconst 1, 3, 0, 0, 0, 0), (.ldc2_w 318, 6, 20, 0, 0, 1415), x_0, x_0, (.invokestatic 77, 9, 149, 3, 9, 1056), x_0, x_0, (.ifCond .eq 15, 12, 24, 0, 0, 0), x_0, x_0, (.iload_n 2, 13, 0, 0, 0, 0), (.i2l, 14, 0, 0, 0, 0), (.lconst 1, 15, 0, 0, 0, 0), (.ldc2_w 320, 18, 2147483646, 0, 0, 1416), x_0, x_0, (.invokestatic 77, 21, 149, 3, 9, 1056), x_0, x_0, (.ifCond .ne 5, 24, 26, 0, 0, 0), x_0, x_0, (.iconst (-1), 25, 0, 0, 0, 0), (.ireturn, 26, 0, 0, 0, 0), (.aload_n 0, 27, 0, 0, 0, 0), (.getfield 159, 30, 0, 3, 9, 951), x_0, x_0, (.ifCond .ne 6, 33, 36, 0, 0, 0), x_0, x_0, (.bipush (-4), 35, 0, 0, 0, 0), x_0, (.ireturn, 36, 0, 0, 0, 0), (.aload_n 0, 37, 0, 0, 0, 0), (.getfield 7, 40, 0, 0, 9, 948), x_0, x_0, (.iconst 0, 41, 0, 0, 0, 0), (.iaload, 42, 0, 0, 0, 0), (.iconst 2, 43, 0, 0, 0, 0), (.iload_n 1, 44, 0, 0, 0, 0), (.imul, 45, 0, 0, 0, 0), (.iadd, 46, 0, 0, 0, 0), (.bipush 40, 48, 0, 0, 0, 0), x_0, (.if_icmp .le 6, 51, 54, 0, 0, 0), x_0, x_0, (.bipush (-2), 53, 0, 0, 0, 0), x_0, (.ireturn, 54, 0, 0, 0, 0), (.iload_n 2, 55, 0, 0, 0, 0), (.i2l, 56, 0, 0, 0, 0), (.lstore_n 3, 57, 0, 0, 0, 0), (.iconst 0, 58, 0, 0, 0, 0), (.istore 5, 60, 0, 0, 0, 0), x_0, (.iconst 0, 61, 0, 0, 0, 0), (.istore 6, 63, 0, 0, 0, 0), x_0, (.iload 6, 65, 0, 0, 0, 0), x_0, (.iload_n 1, 66, 0, 0, 0, 0), (.if_icmp .ge 54, 69, 120, 0, 0, 0), x_0, x_0, (.lload_n 3, 70, 0, 0, 0, 0), (.ldc2_w 322, 73, 48271, 0, 0, 1417), x_0, x_0, (.lmul, 74, 0, 0, 0, 0), (.ldc2_w 324, 77, 2147483647, 0, 0, 1418), x_0, x_0, (.lrem, 78, 0, 0, 0, 0), (.lstore_n 3, 79, 0, 0, 0, 0), (.lload_n 3, 80, 0, 0, 0, 0), (.ldc2_w 326, 83, 16, 0, 0, 1419), x_0, x_0, (.ldiv, 84, 0, 0, 0, 0), (.ldc2_w 75, 87, 5, 0, 0, 1055), x_0, x_0, (.lrem, 88, 0, 0, 0, 0), (.l2i, 89, 0, 0, 0, 0), (.iconst 2, 90, 0, 0, 0, 0), (.isub, 91, 0, 0, 0, 0), (.istore 7, 93, 0, 0, 0, 0), x_0, (.iload 7, 95, 0, 0, 0, 0), x_0, (.ifCond .eq 10, 98, 105, 0, 0, 0), x_0, x_0, (.aload_n 0, 99, 0, 0, 0, 0), (.iload 7, 101, 0, 0, 0, 0), x_0, (.invokevirtual 225, 104, 198, 1, 9, 1237), x_0, x_0, (.pop, 105, 0, 0, 0, 0), (.iload 5, 107, 0, 0, 0, 0), x_0, (.aload_n 0, 108, 0, 0, 0, 0), (.invokevirtual 215, 111, 195, 0, 9, 1219), x_0, x_0, (.iadd, 112, 0, 0, 0, 0), (.istore 5, 114, 0, 0, 0, 0), x_0, (.iinc 6 1, 117, 0, 0, 0, 0), x_0, x_0, (.goto (-54), 120, 63, 0, 0, 0), x_0, x_0, (.iload 5, 122, 0, 0, 0, 0), x_0, (.ireturn, 123, 0, 0, 0, 0)])
def mX9_asked : XM := (yX9_asked, cX9_asked, 1, (some (.int)), [(.aload_n 0, 1, 0, 0, 0, 0), (.getfield 72, 4, 0, 12, 9, 960), x_0, x_0, (.ireturn, 5, 0, 0, 0, 0)])
def mX9_upper : XM := (yX9_upper, cX9_upper, 1, (some (.long)), [(.aload_n 0, 1, 0, 0, 0, 0), (.getfield 287, 4, 0, 13, 9, 961), x_0, x_0, (.lreturn, 5, 0, 0, 0, 0)])
def mX9_lower : XM := (yX9_lower, cX9_lower, 1, (some (.long)), [(.aload_n 0, 1, 0, 0, 0, 0), (.getfield 37, 4, 0, 14, 9, 962), x_0, x_0, (.lreturn, 5, 0, 0, 0, 0)])
def mX9_kindMany : XM := (yX9_kindMany, cX9_kindMany, 4, (some (.int)), [(.iconst 0, 1, 0, 0, 0, 0), (.istore_n 2, 2, 0, 0, 0, 0), (.iconst 0, 3, 0, 0, 0, 0), (.istore_n 3, 4, 0, 0, 0, 0), (.iload_n 3, 5, 0, 0, 0, 0), (.aload_n 0, 6, 0, 0, 0, 0), (.getfield 159, 9, 0, 3, 9, 951), x_0, x_0, (.if_icmp .ge 26, 12, 35, 0, 0, 0), x_0, x_0, (.iload_n 2, 13, 0, 0, 0, 0), (.aload_n 0, 14, 0, 0, 0, 0), (.iload_n 3, 15, 0, 0, 0, 0), (.iload_n 1, 16, 0, 0, 0, 0), (.invokevirtual 193, 19, 188, 2, 9, 1195), x_0, x_0, (.ifCond .eq 7, 22, 26, 0, 0, 0), x_0, x_0, (.iconst 1, 23, 0, 0, 0, 0), (.goto 4, 26, 27, 0, 0, 0), x_0, x_0, (.iconst 0, 27, 0, 0, 0, 0), (.iadd, 28, 0, 0, 0, 0), (.istore_n 2, 29, 0, 0, 0, 0), (.iinc 3 1, 32, 0, 0, 0, 0), x_0, x_0, (.goto (-28), 35, 4, 0, 0, 0), x_0, x_0, (.iload_n 2, 36, 0, 0, 0, 0), (.ireturn, 37, 0, 0, 0, 0)])
def mX9_thereOf : XM := (yX9_thereOf, cX9_thereOf, 4, (some (.int)), [(.iconst 0, 1, 0, 0, 0, 0), (.istore_n 2, 2, 0, 0, 0, 0), (.iconst 0, 3, 0, 0, 0, 0), (.istore_n 3, 4, 0, 0, 0, 0), (.iload_n 3, 5, 0, 0, 0, 0), (.bipush 6, 7, 0, 0, 0, 0), x_0, (.if_icmp .ge 89, 10, 96, 0, 0, 0), x_0, x_0, (.iload_n 2, 11, 0, 0, 0, 0), (.iload_n 1, 12, 0, 0, 0, 0), (.bipush 7, 14, 0, 0, 0, 0), x_0, (.if_icmp .ne 20, 17, 34, 0, 0, 0), x_0, x_0, (.aload_n 0, 18, 0, 0, 0, 0), (.getfield 25, 21, 0, 8, 9, 956), x_0, x_0, (.iload_n 3, 22, 0, 0, 0, 0), (.iaload, 23, 0, 0, 0, 0), (.ifCond .ge 7, 26, 30, 0, 0, 0), x_0, x_0, (.iconst 0, 27, 0, 0, 0, 0), (.goto 61, 30, 88, 0, 0, 0), x_0, x_0, (.iconst 1, 31, 0, 0, 0, 0), (.goto 57, 34, 88, 0, 0, 0), x_0, x_0, (.iload_n 1, 35, 0, 0, 0, 0), (.bipush 8, 37, 0, 0, 0, 0), x_0, (.if_icmp .ne 25, 40, 62, 0, 0, 0), x_0, x_0, (.iload_n 3, 41, 0, 0, 0, 0), (.iconst 4, 42, 0, 0, 0, 0), (.if_icmp .ge 16, 45, 58, 0, 0, 0), x_0, x_0, (.aload_n 0, 46, 0, 0, 0, 0), (.getfield 31, 49, 0, 10, 9, 958), x_0, x_0, (.iload_n 3, 50, 0, 0, 0, 0), (.iaload, 51, 0, 0, 0, 0), (.ifCond .lt 7, 54, 58, 0, 0, 0), x_0, x_0, (.iconst 1, 55, 0, 0, 0, 0), (.goto 33, 58, 88, 0, 0, 0), x_0, x_0, (.iconst 0, 59, 0, 0, 0, 0), (.goto 29, 62, 88, 0, 0, 0), x_0, x_0, (.iload_n 3, 63, 0, 0, 0, 0), (.iconst 3, 64, 0, 0, 0, 0), (.if_icmp .ge 23, 67, 87, 0, 0, 0), x_0, x_0, (.aload_n 0, 68, 0, 0, 0, 0), (.getfield 7, 71, 0, 0, 9, 948), x_0, x_0, (.bipush 124, 73, 0, 0, 0, 0), x_0, (.iconst 1, 74, 0, 0, 0, 0), (.iload_n 3, 75, 0, 0, 0, 0), (.iadd, 76, 0, 0, 0, 0), (.imul, 77, 0, 0, 0, 0), (.iconst 0, 78, 0, 0, 0, 0), (.iadd, 79, 0, 0, 0, 0), (.iaload, 80, 0, 0, 0, 0), (.ifCond .lt 7, 83, 87, 0, 0, 0), x_0, x_0, (.iconst 1, 84, 0, 0, 0, 0), (.goto 4, 87, 88, 0, 0, 0), x_0, x_0, (.iconst 0, 88, 0, 0, 0, 0), (.iadd, 89, 0, 0, 0, 0), (.istore_n 2, 90, 0, 0, 0, 0), (.iinc 3 1, 93, 0, 0, 0, 0), x_0, x_0, (.goto (-89), 96, 4, 0, 0, 0), x_0, x_0, (.iload_n 2, 97, 0, 0, 0, 0), (.ireturn, 98, 0, 0, 0, 0)])
def mX9_countOf : XM := (yX9_countOf, cX9_countOf, 2, (some (.int)), [(.iload_n 1, 1, 0, 0, 0, 0), (.tableswitch 109 0 10 #[59, 64, 71, 78, 85, 90, 96, 109, 109, 109, 102], 60, 0, 0, 0, 0), x_0, x_0, x_0, x_0, x_0, x_0, x_0, x_0, x_0, x_0, x_0, x_0, x_0, x_0, x_0, x_0, x_0, x_0, x_0, x_0, x_0, x_0, x_0, x_0, x_0, x_0, x_0, x_0, x_0, x_0, x_0, x_0, x_0, x_0, x_0, x_0, x_0, x_0, x_0, x_0, x_0, x_0, x_0, x_0, x_0, x_0, x_0, x_0, x_0, x_0, x_0, x_0, x_0, x_0, x_0, x_0, x_0, x_0, (.aload_n 0, 61, 0, 0, 0, 0), (.getfield 159, 64, 0, 3, 9, 951), x_0, x_0, (.ireturn, 65, 0, 0, 0, 0), (.aload_n 0, 66, 0, 0, 0, 0), (.getfield 7, 69, 0, 0, 9, 948), x_0, x_0, (.iconst 1, 70, 0, 0, 0, 0), (.iaload, 71, 0, 0, 0, 0), (.ireturn, 72, 0, 0, 0, 0), (.aload_n 0, 73, 0, 0, 0, 0), (.getfield 7, 76, 0, 0, 9, 948), x_0, x_0, (.iconst 0, 77, 0, 0, 0, 0), (.iaload, 78, 0, 0, 0, 0), (.ireturn, 79, 0, 0, 0, 0), (.aload_n 0, 80, 0, 0, 0, 0), (.getfield 7, 83, 0, 0, 9, 948), x_0, x_0, (.iconst 2, 84, 0, 0, 0, 0), (.iaload, 85, 0, 0, 0, 0), (.ireturn, 86, 0, 0, 0, 0), (.aload_n 0, 87, 0, 0, 0, 0), (.getfield 153, 90, 0, 1, 9, 949), x_0, x_0, (.ireturn, 91, 0, 0, 0, 0), (.aload_n 0, 92, 0, 0, 0, 0), (.iconst 1, 93, 0, 0, 0, 0), (.invokevirtual 328, 96, 243, 1, 9, 1441), x_0, x_0, (.ireturn, 97, 0, 0, 0, 0), (.aload_n 0, 98, 0, 0, 0, 0), (.iconst 3, 99, 0, 0, 0, 0), (.invokevirtual 328, 102, 243, 1, 9, 1441), x_0, x_0, (.ireturn, 103, 0, 0, 0, 0), (.aload_n 0, 104, 0, 0, 0, 0), (.getfield 7, 107, 0, 0, 9, 948), x_0, x_0, (.iconst 3, 108, 0, 0, 0, 0), (.iaload, 109, 0, 0, 0, 0), (.ireturn, 110, 0, 0, 0, 0), (.aload_n 0, 111, 0, 0, 0, 0), (.iload_n 1, 112, 0, 0, 0, 0), (.invokevirtual 331, 115, 244, 1, 9, 1445), x_0, x_0, (.ireturn, 116, 0, 0, 0, 0)])
def mX9_count : XM := (yX9_count, cX9_count, 2, (some (.int)), [(.iload_n 1, 1, 0, 0, 0, 0), (.i2l, 2, 0, 0, 0, 0), (.lconst 0, 3, 0, 0, 0, 0), (.ldc2_w 334, 6, 10, 0, 0, 1436), x_0, x_0, (.invokestatic 77, 9, 149, 3, 9, 1056), x_0, x_0, (.ifCond .eq 11, 12, 20, 0, 0, 0), x_0, x_0, (.aload_n 0, 13, 0, 0, 0, 0), (.iload_n 1, 14, 0, 0, 0, 0), (.invokevirtual 336, 17, 245, 1, 9, 1437), x_0, x_0, (.goto 4, 20, 21, 0, 0, 0), x_0, x_0, (.iconst (-1), 21, 0, 0, 0, 0), (.ireturn, 22, 0, 0, 0, 0)])
def mX9_finding : XM := (yX9_finding, cX9_finding, 1, (some (.int)), [(.aload_n 0, 1, 0, 0, 0, 0), (.getfield 68, 4, 0, 15, 9, 963), x_0, x_0, (.ireturn, 5, 0, 0, 0, 0)])
def mX9_findings : XM := (yX9_findings, cX9_findings, 2, (some (.int)), [(.iload_n 1, 1, 0, 0, 0, 0), (.i2l, 2, 0, 0, 0, 0), (.lconst 1, 3, 0, 0, 0, 0), (.ldc2_w 75, 6, 5, 0, 0, 1055), x_0, x_0, (.invokestatic 77, 9, 149, 3, 9, 1056), x_0, x_0, (.ifCond .eq 12, 12, 21, 0, 0, 0), x_0, x_0, (.aload_n 0, 13, 0, 0, 0, 0), (.getfield 41, 16, 0, 16, 9, 964), x_0, x_0, (.iload_n 1, 17, 0, 0, 0, 0), (.iaload, 18, 0, 0, 0, 0), (.goto 4, 21, 22, 0, 0, 0), x_0, x_0, (.iconst (-1), 22, 0, 0, 0, 0), (.ireturn, 23, 0, 0, 0, 0)])
def mX9_digest : XM := (yX9_digest, cX9_digest, 5, (some (.long)), [(.ldc2_w 339, 3, 17, 0, 0, 1461), x_0, x_0, (.lstore_n 1, 4, 0, 0, 0, 0), (.iconst 0, 5, 0, 0, 0, 0), (.istore_n 3, 6, 0, 0, 0, 0), (.iload_n 3, 7, 0, 0, 0, 0), (.bipush 11, 9, 0, 0, 0, 0), x_0, (.if_icmp .ge 22, 12, 31, 0, 0, 0), x_0, x_0, (.ldc2_w 341, 15, 31, 0, 0, 1462), x_0, x_0, (.lload_n 1, 16, 0, 0, 0, 0), (.lmul, 17, 0, 0, 0, 0), (.aload_n 0, 18, 0, 0, 0, 0), (.iload_n 3, 19, 0, 0, 0, 0), (.invokevirtual 336, 22, 245, 1, 9, 1437), x_0, x_0, (.i2l, 23, 0, 0, 0, 0), (.ladd, 24, 0, 0, 0, 0), (.lstore_n 1, 25, 0, 0, 0, 0), (.iinc 3 1, 28, 0, 0, 0, 0), x_0, x_0, (.goto (-22), 31, 6, 0, 0, 0), x_0, x_0, (.iconst 0, 32, 0, 0, 0, 0), (.istore_n 3, 33, 0, 0, 0, 0), (.iload_n 3, 34, 0, 0, 0, 0), (.bipush 6, 36, 0, 0, 0, 0), x_0, (.aload_n 0, 37, 0, 0, 0, 0), (.getfield 159, 40, 0, 3, 9, 951), x_0, x_0, (.imul, 41, 0, 0, 0, 0), (.if_icmp .ge 29, 44, 70, 0, 0, 0), x_0, x_0, (.ldc2_w 341, 47, 31, 0, 0, 1462), x_0, x_0, (.lload_n 1, 48, 0, 0, 0, 0), (.lmul, 49, 0, 0, 0, 0), (.aload_n 0, 50, 0, 0, 0, 0), (.iload_n 3, 51, 0, 0, 0, 0), (.bipush 6, 53, 0, 0, 0, 0), x_0, (.idiv, 54, 0, 0, 0, 0), (.iload_n 3, 55, 0, 0, 0, 0), (.bipush 6, 57, 0, 0, 0, 0), x_0, (.irem, 58, 0, 0, 0, 0), (.invokevirtual 190, 61, 186, 2, 9, 1158), x_0, x_0, (.i2l, 62, 0, 0, 0, 0), (.ladd, 63, 0, 0, 0, 0), (.lstore_n 1, 64, 0, 0, 0, 0), (.iinc 3 1, 67, 0, 0, 0, 0), x_0, x_0, (.goto (-34), 70, 33, 0, 0, 0), x_0, x_0, (.iconst 1, 71, 0, 0, 0, 0), (.istore_n 3, 72, 0, 0, 0, 0), (.iload_n 3, 73, 0, 0, 0, 0), (.iconst 4, 74, 0, 0, 0, 0), (.if_icmp .ge 28, 77, 102, 0, 0, 0), x_0, x_0, (.ldc2_w 341, 80, 31, 0, 0, 1462), x_0, x_0, (.lload_n 1, 81, 0, 0, 0, 0), (.lmul, 82, 0, 0, 0, 0), (.aload_n 0, 83, 0, 0, 0, 0), (.getfield 7, 86, 0, 0, 9, 948), x_0, x_0, (.bipush 124, 88, 0, 0, 0, 0), x_0, (.iload_n 3, 89, 0, 0, 0, 0), (.imul, 90, 0, 0, 0, 0), (.iconst 0, 91, 0, 0, 0, 0), (.iadd, 92, 0, 0, 0, 0), (.iaload, 93, 0, 0, 0, 0), (.i2l, 94, 0, 0, 0, 0), (.ladd, 95, 0, 0, 0, 0), (.lstore_n 1, 96, 0, 0, 0, 0), (.iinc 3 1, 99, 0, 0, 0, 0), x_0, x_0, (.goto (-27), 102, 72, 0, 0, 0), x_0, x_0, (.iconst 0, 103, 0, 0, 0, 0), (.istore_n 3, 104, 0, 0, 0, 0), (.iload_n 3, 105, 0, 0, 0, 0), (.bipush 6, 107, 0, 0, 0, 0), x_0, (.if_icmp .ge 63, 110, 170, 0, 0, 0), x_0, x_0, (.ldc2_w 341, 113, 31, 0, 0, 1462), x_0, x_0, (.lload_n 1, 114, 0, 0, 0, 0), (.lmul, 115, 0, 0, 0, 0), (.aload_n 0, 116, 0, 0, 0, 0), (.getfield 25, 119, 0, 8, 9, 956), x_0, x_0, (.iload_n 3, 120, 0, 0, 0, 0), (.iaload, 121, 0, 0, 0, 0), (.i2l, 122, 0, 0, 0, 0), (.ladd, 123, 0, 0, 0, 0), (.lstore_n 1, 124, 0, 0, 0, 0), (.iconst 0, 125, 0, 0, 0, 0), (.istore 4, 127, 0, 0, 0, 0), x_0, (.iload 4, 129, 0, 0, 0, 0), x_0, (.aload_n 0, 130, 0, 0, 0, 0), (.getfield 25, 133, 0, 8, 9, 956), x_0, x_0, (.iload_n 3, 134, 0, 0, 0, 0), (.iaload, 135, 0, 0, 0, 0), (.if_icmp .ge 29, 138, 164, 0, 0, 0), x_0, x_0, (.ldc2_w 341, 141, 31, 0, 0, 1462), x_0, x_0, (.lload_n 1, 142, 0, 0, 0, 0), (.lmul, 143, 0, 0, 0, 0), (.aload_n 0, 144, 0, 0, 0, 0), (.getfield 28, 147, 0, 9, 9, 957), x_0, x_0, (.bipush 40, 149, 0, 0, 0, 0), x_0, (.iload_n 3, 150, 0, 0, 0, 0), (.imul, 151, 0, 0, 0, 0), (.iload 4, 153, 0, 0, 0, 0), x_0, (.iadd, 154, 0, 0, 0, 0), (.iaload, 155, 0, 0, 0, 0), (.i2l, 156, 0, 0, 0, 0), (.ladd, 157, 0, 0, 0, 0), (.lstore_n 1, 158, 0, 0, 0, 0), (.iinc 4 1, 161, 0, 0, 0, 0), x_0, x_0, (.goto (-34), 164, 127, 0, 0, 0), x_0, x_0, (.iinc 3 1, 167, 0, 0, 0, 0), x_0, x_0, (.goto (-63), 170, 104, 0, 0, 0), x_0, x_0, (.iconst 0, 171, 0, 0, 0, 0), (.istore_n 3, 172, 0, 0, 0, 0), (.iload_n 3, 173, 0, 0, 0, 0), (.iconst 4, 174, 0, 0, 0, 0), (.if_icmp .ge 63, 177, 237, 0, 0, 0), x_0, x_0, (.ldc2_w 341, 180, 31, 0, 0, 1462), x_0, x_0, (.lload_n 1, 181, 0, 0, 0, 0), (.lmul, 182, 0, 0, 0, 0), (.aload_n 0, 183, 0, 0, 0, 0), (.getfield 31, 186, 0, 10, 9, 958), x_0, x_0, (.iload_n 3, 187, 0, 0, 0, 0), (.iaload, 188, 0, 0, 0, 0), (.i2l, 189, 0, 0, 0, 0), (.ladd, 190, 0, 0, 0, 0), (.lstore_n 1, 191, 0, 0, 0, 0), (.iconst 0, 192, 0, 0, 0, 0), (.istore 4, 194, 0, 0, 0, 0), x_0, (.iload 4, 196, 0, 0, 0, 0), x_0, (.aload_n 0, 197, 0, 0, 0, 0), (.getfield 31, 200, 0, 10, 9, 958), x_0, x_0, (.iload_n 3, 201, 0, 0, 0, 0), (.iaload, 202, 0, 0, 0, 0), (.if_icmp .ge 29, 205, 231, 0, 0, 0), x_0, x_0, (.ldc2_w 341, 208, 31, 0, 0, 1462), x_0, x_0, (.lload_n 1, 209, 0, 0, 0, 0), (.lmul, 210, 0, 0, 0, 0), (.aload_n 0, 211, 0, 0, 0, 0), (.getfield 34, 214, 0, 11, 9, 959), x_0, x_0, (.bipush 60, 216, 0, 0, 0, 0), x_0, (.iload_n 3, 217, 0, 0, 0, 0), (.imul, 218, 0, 0, 0, 0), (.iload 4, 220, 0, 0, 0, 0), x_0, (.iadd, 221, 0, 0, 0, 0), (.iaload, 222, 0, 0, 0, 0), (.i2l, 223, 0, 0, 0, 0), (.ladd, 224, 0, 0, 0, 0), (.lstore_n 1, 225, 0, 0, 0, 0), (.iinc 4 1, 228, 0, 0, 0, 0), x_0, x_0, (.goto (-34), 231, 194, 0, 0, 0), x_0, x_0, (.iinc 3 1, 234, 0, 0, 0, 0), x_0, x_0, (.goto (-62), 237, 172, 0, 0, 0), x_0, x_0, (.lload_n 1, 238, 0, 0, 0, 0), (.lreturn, 239, 0, 0, 0, 0)])
def mJ6_bitCount_0f7a4 : XM := (yJ6_bitCount_0f7a4, cJ6_bitCount_0f7a4, 1, (some (.int)), [(.iload_n 0, 1, 0, 0, 0, 0), (.iload_n 0, 2, 0, 0, 0, 0), (.iconst 1, 3, 0, 0, 0, 0), (.iushr, 4, 0, 0, 0, 0), (.ldc_w 265, 7, 1431655765, 0, 0, 763), x_0, x_0, (.iand, 8, 0, 0, 0, 0), (.isub, 9, 0, 0, 0, 0), (.istore_n 0, 10, 0, 0, 0, 0), (.iload_n 0, 11, 0, 0, 0, 0), (.ldc_w 266, 14, 858993459, 0, 0, 764), x_0, x_0, (.iand, 15, 0, 0, 0, 0), (.iload_n 0, 16, 0, 0, 0, 0), (.iconst 2, 17, 0, 0, 0, 0), (.iushr, 18, 0, 0, 0, 0), (.ldc_w 266, 21, 858993459, 0, 0, 764), x_0, x_0, (.iand, 22, 0, 0, 0, 0), (.iadd, 23, 0, 0, 0, 0), (.istore_n 0, 24, 0, 0, 0, 0), (.iload_n 0, 25, 0, 0, 0, 0), (.iload_n 0, 26, 0, 0, 0, 0), (.iconst 4, 27, 0, 0, 0, 0), (.iushr, 28, 0, 0, 0, 0), (.iadd, 29, 0, 0, 0, 0), (.ldc_w 267, 32, 252645135, 0, 0, 765), x_0, x_0, (.iand, 33, 0, 0, 0, 0), (.istore_n 0, 34, 0, 0, 0, 0), (.iload_n 0, 35, 0, 0, 0, 0), (.iload_n 0, 36, 0, 0, 0, 0), (.bipush 8, 38, 0, 0, 0, 0), x_0, (.iushr, 39, 0, 0, 0, 0), (.iadd, 40, 0, 0, 0, 0), (.istore_n 0, 41, 0, 0, 0, 0), (.iload_n 0, 42, 0, 0, 0, 0), (.iload_n 0, 43, 0, 0, 0, 0), (.bipush 16, 45, 0, 0, 0, 0), x_0, (.iushr, 46, 0, 0, 0, 0), (.iadd, 47, 0, 0, 0, 0), (.istore_n 0, 48, 0, 0, 0, 0), (.iload_n 0, 49, 0, 0, 0, 0), (.bipush 63, 51, 0, 0, 0, 0), x_0, (.iand, 52, 0, 0, 0, 0), (.ireturn, 53, 0, 0, 0, 0)])
def mJ9_floorMod_7cf53 : XM := (yJ9_floorMod_7cf53, cJ9_floorMod_7cf53, 3, (some (.int)), [(.iload_n 0, 1, 0, 0, 0, 0), (.iload_n 1, 2, 0, 0, 0, 0), (.irem, 3, 0, 0, 0, 0), (.istore_n 2, 4, 0, 0, 0, 0), (.iload_n 0, 5, 0, 0, 0, 0), (.iload_n 1, 6, 0, 0, 0, 0), (.ixor, 7, 0, 0, 0, 0), (.ifCond .ge 11, 10, 18, 0, 0, 0), x_0, x_0, (.iload_n 2, 11, 0, 0, 0, 0), (.ifCond .eq 7, 14, 18, 0, 0, 0), x_0, x_0, (.iload_n 2, 15, 0, 0, 0, 0), (.iload_n 1, 16, 0, 0, 0, 0), (.iadd, 17, 0, 0, 0, 0), (.ireturn, 18, 0, 0, 0, 0), (.iload_n 2, 19, 0, 0, 0, 0), (.ireturn, 20, 0, 0, 0, 0)])
def mJ9_abs_0f7a4 : XM := (yJ9_abs_0f7a4, cJ9_abs_0f7a4, 1, (some (.int)), [(.iload_n 0, 1, 0, 0, 0, 0), (.ifCond .ge 8, 4, 9, 0, 0, 0), x_0, x_0, (.iload_n 0, 5, 0, 0, 0, 0), (.ineg, 6, 0, 0, 0, 0), (.goto 4, 9, 10, 0, 0, 0), x_0, x_0, (.iload_n 0, 10, 0, 0, 0, 0), (.ireturn, 11, 0, 0, 0, 0)])
def mJ9_max_7cf53 : XM := (yJ9_max_7cf53, cJ9_max_7cf53, 2, (some (.int)), [(.iload_n 0, 1, 0, 0, 0, 0), (.iload_n 1, 2, 0, 0, 0, 0), (.if_icmp .lt 7, 5, 9, 0, 0, 0), x_0, x_0, (.iload_n 0, 6, 0, 0, 0, 0), (.goto 4, 9, 10, 0, 0, 0), x_0, x_0, (.iload_n 1, 10, 0, 0, 0, 0), (.ireturn, 11, 0, 0, 0, 0)])
def mJ9_min_7cf53 : XM := (yJ9_min_7cf53, cJ9_min_7cf53, 2, (some (.int)), [(.iload_n 0, 1, 0, 0, 0, 0), (.iload_n 1, 2, 0, 0, 0, 0), (.if_icmp .gt 7, 5, 9, 0, 0, 0), x_0, x_0, (.iload_n 0, 6, 0, 0, 0, 0), (.goto 4, 9, 10, 0, 0, 0), x_0, x_0, (.iload_n 1, 10, 0, 0, 0, 0), (.ireturn, 11, 0, 0, 0, 0)])
def mJ7_rangeCheck_23922 : XM := (yJ7_rangeCheck_23922, cJ7_rangeCheck_23922, 3, none, [(.iload_n 1, 1, 0, 0, 0, 0), (.iload_n 2, 2, 0, 0, 0, 0), (.if_icmp .le 44, 5, 46, 0, 0, 0), x_0, x_0, x_0, x_0, x_0, (.dup, 9, 0, 0, 0, 0), x_0, x_0, x_0, (.dup, 13, 0, 0, 0, 0), x_0, x_0, x_0, x_0, x_0, x_0, x_0, x_0, (.iload_n 1, 22, 0, 0, 0, 0), x_0, x_0, x_0, x_0, x_0, x_0, x_0, x_0, (.iload_n 2, 31, 0, 0, 0, 0), x_0, x_0, x_0, x_0, x_0, x_0, x_0, x_0, x_0, x_0, x_0, x_0, x_0, x_0, x_0, (.iload_n 1, 47, 0, 0, 0, 0), (.ifCond .ge 12, 50, 59, 0, 0, 0), x_0, x_0, x_0, x_0, x_0, (.dup, 54, 0, 0, 0, 0), (.iload_n 1, 55, 0, 0, 0, 0), x_0, x_0, x_0, x_0, (.iload_n 2, 60, 0, 0, 0, 0), (.iload_n 0, 61, 0, 0, 0, 0), (.if_icmp .le 12, 64, 73, 0, 0, 0), x_0, x_0, x_0, x_0, x_0, (.dup, 68, 0, 0, 0, 0), (.iload_n 2, 69, 0, 0, 0, 0), x_0, x_0, x_0, x_0, (.return_, 74, 0, 0, 0, 0)])
def mJ7_fill_d0a16 : XM := (yJ7_fill_d0a16, cJ7_fill_d0a16, 5, none, [(.iconst 0, 1, 0, 0, 0, 0), (.istore_n 3, 2, 0, 0, 0, 0), (.aload_n 0, 3, 0, 0, 0, 0), (.arraylength, 4, 0, 0, 0, 0), (.istore 4, 6, 0, 0, 0, 0), x_0, (.iload_n 3, 7, 0, 0, 0, 0), (.iload 4, 9, 0, 0, 0, 0), x_0, (.if_icmp .ge 13, 12, 22, 0, 0, 0), x_0, x_0, (.aload_n 0, 13, 0, 0, 0, 0), (.iload_n 3, 14, 0, 0, 0, 0), (.lload_n 1, 15, 0, 0, 0, 0), (.lastore, 16, 0, 0, 0, 0), (.iinc 3 1, 19, 0, 0, 0, 0), x_0, x_0, (.goto (-13), 22, 6, 0, 0, 0), x_0, x_0, (.return_, 23, 0, 0, 0, 0)])
def mJ7_fill_53178 : XM := (yJ7_fill_53178, cJ7_fill_53178, 4, none, [(.iconst 0, 1, 0, 0, 0, 0), (.istore_n 2, 2, 0, 0, 0, 0), (.aload_n 0, 3, 0, 0, 0, 0), (.arraylength, 4, 0, 0, 0, 0), (.istore_n 3, 5, 0, 0, 0, 0), (.iload_n 2, 6, 0, 0, 0, 0), (.iload_n 3, 7, 0, 0, 0, 0), (.if_icmp .ge 13, 10, 20, 0, 0, 0), x_0, x_0, (.aload_n 0, 11, 0, 0, 0, 0), (.iload_n 2, 12, 0, 0, 0, 0), (.iload_n 1, 13, 0, 0, 0, 0), (.iastore, 14, 0, 0, 0, 0), (.iinc 2 1, 17, 0, 0, 0, 0), x_0, x_0, (.goto (-12), 20, 5, 0, 0, 0), x_0, x_0, (.return_, 21, 0, 0, 0, 0)])
def mJ7_fill_fda19 : XM := (yJ7_fill_fda19, cJ7_fill_fda19, 5, none, [(.aload_n 0, 1, 0, 0, 0, 0), (.arraylength, 2, 0, 0, 0, 0), (.iload_n 1, 3, 0, 0, 0, 0), (.iload_n 2, 4, 0, 0, 0, 0), (.invokestatic 13, 7, 255, 3, 0, 693), x_0, x_0, (.iload_n 1, 8, 0, 0, 0, 0), (.istore 4, 10, 0, 0, 0, 0), x_0, (.iload 4, 12, 0, 0, 0, 0), x_0, (.iload_n 2, 13, 0, 0, 0, 0), (.if_icmp .ge 14, 16, 27, 0, 0, 0), x_0, x_0, (.aload_n 0, 17, 0, 0, 0, 0), (.iload 4, 19, 0, 0, 0, 0), x_0, (.iload_n 3, 20, 0, 0, 0, 0), (.iastore, 21, 0, 0, 0, 0), (.iinc 4 1, 24, 0, 0, 0, 0), x_0, x_0, (.goto (-14), 27, 10, 0, 0, 0), x_0, x_0, (.return_, 28, 0, 0, 0, 0)])
def xT : List XM := [mX0_init, mX0_least, mX0_writeTurns, mX0_leastBehind, mX0_mostWithin, mX0_raiseMost, mX0_mostByCloud, mX0_mostBehindClouds, mX0_leastOrder, mX0_lowerOrders, mX0_swapTables, mX1_init, mX1_become, mX1_standAt, mX1_kind, mX1_speed, mX1_toldBright, mX1_isOf, mX1_movedBy, mX1_placeAt, mX1_brightAt, mX1_brightTogether, mX1_movesWithin, mX1_returnsAfter, mX2_init, mX2_room, mX2_size, mX2_isMissing, mX2_remove, mX2_renew, mX2_holds, mX2_holdsRun, mX2_read, mX2_write, mX2_take, mX2_sum, mX2_isAllWithin, mX2_firstLess, mX2_mixedInto, mX3_init, mX3_begin, mX3_forget, mX3_isForgotten, mX3_done, mX3_now, mX3_first, mX3_spent, mX3_hasRoom, mX3_pass, mX3_turnBy, mX3_rewind, mX3_become, mX3_note, mX4_init, mX4_faultOf, mX4_build, mX4_readLight, mX4_skipBlanks, mX4_readDomeLetter, mX4_kindLetter, mX4_placeFigures, mX4_figure, mX4_goOnIf, mX5_init, mX5_whole, mX5_weigh, mX5_spread, mX5_gotAt, mX5_weightLeft, mX6_init, mX6_become, mX6_broad, mX6_times, mX6_gain, mX6_effortOf, mX6_leastWayToBest, mX7_init, mX7_fill, mX7_gain, mX8_init, mX8_row, mX8_lay, mX8_at, mX8_tear, mX8_copy, mX8_mean, mX8_text, mX8_put, mX8_fault, mX8_dome, mX8_light, mX8_mark, mX8_moment, mX8_turn, mX8_undo, mX8_keep, mX8_on, mX8_place, mX8_gets, mX8_seen, mX8_stays, mX8_ahead, mX8_effort, mX8_follow, mX8_turns, mX8_most, mX8_by, mX8_order, mX8_kinds, mX8_places, mX8_speeds, mX8_fainter, mX8_cloud, mX8_mid, mX8_odds, mX8_lots, mX8_asked, mX8_upper, mX8_lower, mX8_count, mX8_finding, mX8_findings, mX8_digest, mX8_round, mX8_isTooFar, mX8_isNoFollowing, mX8_lineAt, mX8_lightAt, mX8_found, mX8_renewed, mX8_refuseLine, mX8_refusePlace, mX8_refuseTurns, mX8_refuseNotes, mX8_gainIn, mX8_timesOver, mX8_overFor, mX8_guessed, mX8_guessFits, mX8_passMoment, mX8_bySleep, mX8_tellChances, mX8_greatestCommon, mX8_factOf, mX8_counted, mX8_lightsOf, mX8_linesThere, mX8_keptThere, mX9_init, mX9_in, mX9_has, mX9_find, mX9_tell, mX9_isRow, mX9_isText, mX9_row, mX9_makeRow, mX9_refused, mX9_lay, mX9_at, mX9_tear, mX9_isSpan, mX9_copy, mX9_mean, mX9_text, mX9_put, mX9_here, mX9_skip, mX9_figure, mX9_figures, mX9_readsSlit, mX9_kindOfLetter, mX9_readsLight, mX9_faultOf, mX9_fault, mX9_dome, mX9_isLight, mX9_ring, mX9_moved, mX9_placeAt, mX9_now, mX9_brightOf, mX9_brightAt, mX9_times, mX9_got, mX9_gotNow, mX9_toldOf, mX9_light, mX9_isOf, mX9_moves, mX9_back, mX9_fourBrights, mX9_offBest, mX9_mark, mX9_keepPast, mX9_doMoment, mX9_moment, mX9_effortFrom, mX9_doTurn, mX9_turn, mX9_undo, mX9_copyDome, mX9_keep, mX9_on, mX9_isAhead, mX9_place, mX9_gets, mX9_seen, mX9_stays, mX9_over, mX9_ahead, mX9_effort, mX9_layEfforts, mX9_costOf, mX9_onBy, mX9_layLeast, mX9_follow, mX9_turns, mX9_most, mX9_areAll, mX9_noTurns, mX9_by, mX9_nextOrder, mX9_orderEffort, mX9_order, mX9_noNotes, mX9_isSo, mX9_kinds, mX9_places, mX9_speeds, mX9_fainter, mX9_worseOf, mX9_cloud, mX9_tellParts, mX9_layAsleep, mX9_waysOf, mX9_tellAsleep, mX9_mid, mX9_odds, mX9_lots, mX9_asked, mX9_upper, mX9_lower, mX9_kindMany, mX9_thereOf, mX9_countOf, mX9_count, mX9_finding, mX9_findings, mX9_digest, mJ6_bitCount_0f7a4, mJ9_floorMod_7cf53, mJ9_abs_0f7a4, mJ9_max_7cf53, mJ9_min_7cf53, mJ7_rangeCheck_23922, mJ7_fill_d0a16, mJ7_fill_53178, mJ7_fill_fda19]
def xP : List (Nat × Nat × Nat × Nat) := [(206, 205, 0, 92), (689, 687, 688, 92), (713, 711, 712, 92), (700, 699, 18, 92), (727, 725, 726, 92), (732, 731, 19, 92), (823, 821, 822, 92), (827, 826, 27, 92), (758, 756, 757, 92), (771, 770, 22, 92), (737, 736, 20, 92), (141, 140, 0, 88), (473, 471, 472, 88), (791, 789, 790, 88), (493, 491, 492, 88), (515, 513, 514, 88), (519, 517, 518, 88), (527, 525, 526, 88), (505, 504, 13, 88), (501, 499, 500, 88), (523, 521, 522, 88), (564, 562, 563, 88), (555, 553, 554, 88), (560, 558, 559, 88), (244, 243, 0, 94), (326, 324, 325, 94), (405, 403, 404, 94), (356, 354, 355, 94), (381, 379, 380, 94), (334, 332, 333, 94), (360, 358, 359, 94), (389, 387, 388, 94), (364, 362, 363, 94), (369, 367, 368, 94), (393, 391, 392, 94), (409, 407, 408, 94), (749, 747, 748, 94), (811, 809, 810, 94), (940, 938, 939, 94), (173, 172, 0, 90), (477, 475, 476, 90), (259, 257, 258, 90), (638, 636, 637, 90), (614, 612, 613, 90), (497, 495, 496, 90), (535, 533, 534, 90), (922, 920, 921, 90), (577, 575, 576, 90), (585, 583, 584, 90), (598, 596, 597, 90), (618, 616, 617, 90), (629, 627, 628, 90), (589, 588, 16, 90), (114, 113, 0, 87), (425, 423, 424, 87), (465, 463, 464, 87), (451, 450, 9, 87), (429, 428, 4, 87), (435, 434, 5, 87), (455, 454, 10, 87), (447, 446, 8, 87), (443, 442, 7, 87), (439, 438, 6, 87), (225, 224, 0, 93), (863, 861, 862, 93), (839, 837, 838, 93), (849, 848, 29, 93), (854, 853, 30, 93), (859, 858, 31, 93), (160, 159, 0, 89), (469, 467, 468, 89), (907, 905, 906, 89), (544, 542, 543, 89), (539, 537, 538, 89), (602, 600, 601, 89), (569, 567, 568, 89), (196, 195, 0, 91), (682, 680, 681, 91), (705, 703, 704, 91), (104, 103, 0, 86), (315, 313, 314, 86), (344, 342, 343, 86), (373, 371, 372, 86), (377, 375, 376, 86), (385, 383, 384, 86), (401, 399, 400, 86), (413, 411, 412, 86), (417, 415, 416, 86), (421, 419, 420, 86), (461, 459, 460, 86), (481, 479, 480, 86), (550, 548, 549, 86), (573, 571, 572, 86), (594, 592, 593, 86), (610, 608, 609, 86), (625, 623, 624, 86), (634, 632, 633, 86), (642, 640, 641, 86), (649, 647, 648, 86), (653, 651, 652, 86), (657, 655, 656, 86), (661, 659, 660, 86), (670, 668, 669, 86), (675, 673, 674, 86), (719, 717, 718, 86), (723, 721, 722, 86), (741, 739, 740, 86), (754, 752, 753, 86), (777, 775, 776, 86), (799, 797, 798, 86), (803, 801, 802, 86), (807, 805, 806, 86), (819, 817, 818, 86), (831, 829, 830, 86), (874, 872, 873, 86), (878, 876, 877, 86), (887, 885, 886, 86), (891, 889, 890, 86), (895, 893, 894, 86), (899, 897, 898, 86), (926, 924, 925, 86), (930, 928, 929, 86), (934, 932, 933, 86), (508, 507, 0, 86), (645, 644, 0, 86), (678, 677, 0, 86), (318, 317, 0, 86), (485, 484, 11, 86), (330, 329, 1, 86), (322, 321, 0, 86), (352, 351, 3, 86), (348, 347, 2, 86), (745, 744, 21, 86), (785, 784, 24, 86), (531, 530, 14, 86), (815, 814, 26, 86), (665, 664, 17, 86), (781, 780, 23, 86), (795, 794, 25, 86), (581, 580, 15, 86), (835, 834, 28, 86), (867, 866, 32, 86), (870, 869, 0, 86), (489, 488, 12, 86), (903, 902, 33, 86), (911, 910, 34, 86), (914, 913, 0, 86), (918, 917, 35, 86), (946, 945, 0, 96), (1058, 1057, 0, 96), (1398, 1397, 0, 96), (1062, 1061, 36, 96), (1078, 1077, 39, 96), (1054, 1053, 0, 96), (1105, 1104, 0, 96), (1051, 1049, 1050, 96), (1066, 1065, 37, 96), (1074, 1073, 38, 96), (1070, 1068, 1069, 96), (1082, 1080, 1081, 96), (1086, 1084, 1085, 96), (1094, 1093, 40, 96), (1090, 1088, 1089, 96), (1098, 1096, 1097, 96), (1102, 1100, 1101, 96), (1110, 1108, 1109, 96), (1130, 1129, 44, 96), (1126, 1125, 43, 96), (1134, 1133, 45, 96), (1138, 1137, 46, 96), (1122, 1121, 42, 96), (1145, 1144, 0, 96), (1142, 1141, 47, 96), (1118, 1117, 41, 96), (1114, 1112, 1113, 96), (1149, 1147, 1148, 96), (1157, 1156, 48, 96), (1175, 1174, 0, 96), (1172, 1171, 0, 96), (1169, 1168, 51, 96), (1165, 1164, 50, 96), (1182, 1181, 0, 96), (1179, 1178, 52, 96), (1190, 1189, 54, 96), (1186, 1185, 53, 96), (1226, 1225, 61, 96), (1161, 1160, 49, 96), (1153, 1151, 1152, 96), (1198, 1197, 55, 96), (1202, 1201, 56, 96), (1206, 1205, 57, 96), (1210, 1209, 58, 96), (1214, 1213, 59, 96), (1194, 1192, 1193, 96), (1230, 1229, 62, 96), (1222, 1221, 60, 96), (1218, 1216, 1217, 96), (1244, 1243, 64, 96), (1240, 1239, 63, 96), (1234, 1232, 1233, 96), (1248, 1246, 1247, 96), (1257, 1256, 65, 96), (1252, 1250, 1251, 96), (1261, 1259, 1260, 96), (1268, 1267, 0, 96), (1265, 1263, 1264, 96), (1273, 1271, 1272, 96), (1277, 1275, 1276, 96), (1281, 1279, 1280, 96), (1289, 1288, 66, 96), (1285, 1283, 1284, 96), (1293, 1291, 1292, 96), (1306, 1305, 68, 96), (1315, 1314, 70, 96), (1311, 1310, 69, 96), (1302, 1301, 67, 96), (1297, 1295, 1296, 96), (1319, 1317, 1318, 96), (1323, 1321, 1322, 96), (1336, 1335, 72, 96), (1332, 1331, 71, 96), (1328, 1326, 1327, 96), (1348, 1347, 74, 96), (1344, 1343, 73, 96), (1340, 1338, 1339, 96), (1356, 1355, 75, 96), (1361, 1360, 76, 96), (1352, 1350, 1351, 96), (1365, 1363, 1364, 96), (1369, 1367, 1368, 96), (1373, 1371, 1372, 96), (1382, 1381, 77, 96), (1377, 1375, 1376, 96), (1406, 1405, 81, 96), (1402, 1401, 80, 96), (1395, 1394, 79, 96), (1391, 1390, 78, 96), (1386, 1384, 1385, 96), (1410, 1408, 1409, 96), (1414, 1412, 1413, 96), (1423, 1421, 1422, 96), (1427, 1425, 1426, 96), (1431, 1429, 1430, 96), (1444, 1443, 83, 96), (1448, 1447, 84, 96), (1440, 1439, 82, 96), (1435, 1433, 1434, 96), (1452, 1450, 1451, 96), (1456, 1454, 1455, 96), (1460, 1458, 1459, 96), (762, 761, 0, 99), (511, 510, 0, 95), (605, 604, 0, 95), (248, 247, 0, 95), (337, 336, 0, 95), (695, 694, 0, 97), (842, 841, 0, 97), (340, 339, 0, 97), (692, 691, 0, 97)]
def mL_law : XM := (yL_law, cL_law, 4, some .boolean, [(.new 7, 3, 0, 0, 8, 100), x_0, x_0, (.dup, 4, 0, 0, 0, 0), (.invokespecial 9, 7, 79, 0, 8, 102), x_0, x_0, (.astore_n 1, 8, 0, 0, 0, 0), (.new 10, 11, 0, 0, 9, 942), x_0, x_0, (.dup, 12, 0, 0, 0, 0), (.invokespecial 12, 15, 148, 0, 9, 944), x_0, x_0, (.astore_n 2, 16, 0, 0, 0, 0), (.iconst 0, 17, 0, 0, 0, 0), (.istore_n 3, 18, 0, 0, 0, 0), (.iload_n 3, 19, 0, 0, 0, 0), (.aload_n 0, 20, 0, 0, 0, 0), (.arraylength, 21, 0, 0, 0, 0), (.bipush 6, 23, 0, 0, 0, 0), x_0, (.isub, 24, 0, 0, 0, 0), (.if_icmp .gt 1444, 27, 1468, 0, 0, 0), x_0, x_0, (.aload_n 0, 28, 0, 0, 0, 0), (.iload_n 3, 29, 0, 0, 0, 0), (.iaload, 30, 0, 0, 0, 0), (.bipush 63, 32, 0, 0, 0, 0), x_0, (.iand, 33, 0, 0, 0, 0), (.tableswitch 1429 0 42 #[187, 220, 263, 296, 319, 382, 405, 438, 481, 504, 527, 560, 593, 606, 629, 652, 675, 698, 731, 764, 787, 810, 833, 856, 899, 932, 975, 1008, 1031, 1064, 1097, 1130, 1163, 1196, 1239, 1282, 1315, 1328, 1342, 1356, 1379, 1392, 1415], 220, 0, 0, 0, 0), x_0, x_0, x_0, x_0, x_0, x_0, x_0, x_0, x_0, x_0, x_0, x_0, x_0, x_0, x_0, x_0, x_0, x_0, x_0, x_0, x_0, x_0, x_0, x_0, x_0, x_0, x_0, x_0, x_0, x_0, x_0, x_0, x_0, x_0, x_0, x_0, x_0, x_0, x_0, x_0, x_0, x_0, x_0, x_0, x_0, x_0, x_0, x_0, x_0, x_0, x_0, x_0, x_0, x_0, x_0, x_0, x_0, x_0, x_0, x_0, x_0, x_0, x_0, x_0, x_0, x_0, x_0, x_0, x_0, x_0, x_0, x_0, x_0, x_0, x_0, x_0, x_0, x_0, x_0, x_0, x_0, x_0, x_0, x_0, x_0, x_0, x_0, x_0, x_0, x_0, x_0, x_0, x_0, x_0, x_0, x_0, x_0, x_0, x_0, x_0, x_0, x_0, x_0, x_0, x_0, x_0, x_0, x_0, x_0, x_0, x_0, x_0, x_0, x_0, x_0, x_0, x_0, x_0, x_0, x_0, x_0, x_0, x_0, x_0, x_0, x_0, x_0, x_0, x_0, x_0, x_0, x_0, x_0, x_0, x_0, x_0, x_0, x_0, x_0, x_0, x_0, x_0, x_0, x_0, x_0, x_0, x_0, x_0, x_0, x_0, x_0, x_0, x_0, x_0, x_0, x_0, x_0, x_0, x_0, x_0, x_0, x_0, x_0, x_0, x_0, x_0, x_0, x_0, x_0, x_0, x_0, x_0, x_0, x_0, x_0, x_0, x_0, x_0, x_0, x_0, x_0, x_0, x_0, x_0, x_0, x_0, (.aload_n 1, 221, 0, 0, 0, 0), (.aload_n 0, 222, 0, 0, 0, 0), (.iload_n 3, 223, 0, 0, 0, 0), (.iconst 1, 224, 0, 0, 0, 0), (.iadd, 225, 0, 0, 0, 0), (.iaload, 226, 0, 0, 0, 0), (.aload_n 0, 227, 0, 0, 0, 0), (.iload_n 3, 228, 0, 0, 0, 0), (.iconst 2, 229, 0, 0, 0, 0), (.iadd, 230, 0, 0, 0, 0), (.iaload, 231, 0, 0, 0, 0), (.invokevirtual 13, 234, 80, 2, 8, 312), x_0, x_0, (.aload_n 2, 235, 0, 0, 0, 0), (.aload_n 0, 236, 0, 0, 0, 0), (.iload_n 3, 237, 0, 0, 0, 0), (.iconst 1, 238, 0, 0, 0, 0), (.iadd, 239, 0, 0, 0, 0), (.iaload, 240, 0, 0, 0, 0), (.aload_n 0, 241, 0, 0, 0, 0), (.iload_n 3, 242, 0, 0, 0, 0), (.iconst 2, 243, 0, 0, 0, 0), (.iadd, 244, 0, 0, 0, 0), (.iaload, 245, 0, 0, 0, 0), (.invokevirtual 17, 248, 155, 2, 9, 1048), x_0, x_0, (.if_icmp .eq 1214, 251, 1462, 0, 0, 0), x_0, x_0, (.iconst 0, 252, 0, 0, 0, 0), (.ireturn, 253, 0, 0, 0, 0), (.aload_n 1, 254, 0, 0, 0, 0), (.aload_n 0, 255, 0, 0, 0, 0), (.iload_n 3, 256, 0, 0, 0, 0), (.iconst 1, 257, 0, 0, 0, 0), (.iadd, 258, 0, 0, 0, 0), (.iaload, 259, 0, 0, 0, 0), (.aload_n 0, 260, 0, 0, 0, 0), (.iload_n 3, 261, 0, 0, 0, 0), (.iconst 2, 262, 0, 0, 0, 0), (.iadd, 263, 0, 0, 0, 0), (.iaload, 264, 0, 0, 0, 0), (.aload_n 0, 265, 0, 0, 0, 0), (.iload_n 3, 266, 0, 0, 0, 0), (.iconst 3, 267, 0, 0, 0, 0), (.iadd, 268, 0, 0, 0, 0), (.iaload, 269, 0, 0, 0, 0), (.invokevirtual 18, 272, 81, 3, 8, 341), x_0, x_0, (.aload_n 2, 273, 0, 0, 0, 0), (.aload_n 0, 274, 0, 0, 0, 0), (.iload_n 3, 275, 0, 0, 0, 0), (.iconst 1, 276, 0, 0, 0, 0), (.iadd, 277, 0, 0, 0, 0), (.iaload, 278, 0, 0, 0, 0), (.aload_n 0, 279, 0, 0, 0, 0), (.iload_n 3, 280, 0, 0, 0, 0), (.iconst 2, 281, 0, 0, 0, 0), (.iadd, 282, 0, 0, 0, 0), (.iaload, 283, 0, 0, 0, 0), (.aload_n 0, 284, 0, 0, 0, 0), (.iload_n 3, 285, 0, 0, 0, 0), (.iconst 3, 286, 0, 0, 0, 0), (.iadd, 287, 0, 0, 0, 0), (.iaload, 288, 0, 0, 0, 0), (.invokevirtual 22, 291, 158, 3, 9, 1067), x_0, x_0, (.if_icmp .eq 1171, 294, 1462, 0, 0, 0), x_0, x_0, (.iconst 0, 295, 0, 0, 0, 0), (.ireturn, 296, 0, 0, 0, 0), (.aload_n 1, 297, 0, 0, 0, 0), (.aload_n 0, 298, 0, 0, 0, 0), (.iload_n 3, 299, 0, 0, 0, 0), (.iconst 1, 300, 0, 0, 0, 0), (.iadd, 301, 0, 0, 0, 0), (.iaload, 302, 0, 0, 0, 0), (.aload_n 0, 303, 0, 0, 0, 0), (.iload_n 3, 304, 0, 0, 0, 0), (.iconst 2, 305, 0, 0, 0, 0), (.iadd, 306, 0, 0, 0, 0), (.iaload, 307, 0, 0, 0, 0), (.invokevirtual 23, 310, 82, 2, 8, 370), x_0, x_0, (.aload_n 2, 311, 0, 0, 0, 0), (.aload_n 0, 312, 0, 0, 0, 0), (.iload_n 3, 313, 0, 0, 0, 0), (.iconst 1, 314, 0, 0, 0, 0), (.iadd, 315, 0, 0, 0, 0), (.iaload, 316, 0, 0, 0, 0), (.aload_n 0, 317, 0, 0, 0, 0), (.iload_n 3, 318, 0, 0, 0, 0), (.iconst 2, 319, 0, 0, 0, 0), (.iadd, 320, 0, 0, 0, 0), (.iaload, 321, 0, 0, 0, 0), (.invokevirtual 26, 324, 159, 2, 9, 1079), x_0, x_0, (.if_icmp .eq 1138, 327, 1462, 0, 0, 0), x_0, x_0, (.iconst 0, 328, 0, 0, 0, 0), (.ireturn, 329, 0, 0, 0, 0), (.aload_n 1, 330, 0, 0, 0, 0), (.aload_n 0, 331, 0, 0, 0, 0), (.iload_n 3, 332, 0, 0, 0, 0), (.iconst 1, 333, 0, 0, 0, 0), (.iadd, 334, 0, 0, 0, 0), (.iaload, 335, 0, 0, 0, 0), (.invokevirtual 27, 338, 83, 1, 8, 374), x_0, x_0, (.aload_n 2, 339, 0, 0, 0, 0), (.aload_n 0, 340, 0, 0, 0, 0), (.iload_n 3, 341, 0, 0, 0, 0), (.iconst 1, 342, 0, 0, 0, 0), (.iadd, 343, 0, 0, 0, 0), (.iaload, 344, 0, 0, 0, 0), (.invokevirtual 31, 347, 160, 1, 9, 1083), x_0, x_0, (.if_icmp .eq 1115, 350, 1462, 0, 0, 0), x_0, x_0, (.iconst 0, 351, 0, 0, 0, 0), (.ireturn, 352, 0, 0, 0, 0), (.aload_n 1, 353, 0, 0, 0, 0), (.aload_n 0, 354, 0, 0, 0, 0), (.iload_n 3, 355, 0, 0, 0, 0), (.iconst 1, 356, 0, 0, 0, 0), (.iadd, 357, 0, 0, 0, 0), (.iaload, 358, 0, 0, 0, 0), (.aload_n 0, 359, 0, 0, 0, 0), (.iload_n 3, 360, 0, 0, 0, 0), (.iconst 2, 361, 0, 0, 0, 0), (.iadd, 362, 0, 0, 0, 0), (.iaload, 363, 0, 0, 0, 0), (.aload_n 0, 364, 0, 0, 0, 0), (.iload_n 3, 365, 0, 0, 0, 0), (.iconst 3, 366, 0, 0, 0, 0), (.iadd, 367, 0, 0, 0, 0), (.iaload, 368, 0, 0, 0, 0), (.aload_n 0, 369, 0, 0, 0, 0), (.iload_n 3, 370, 0, 0, 0, 0), (.iconst 4, 371, 0, 0, 0, 0), (.iadd, 372, 0, 0, 0, 0), (.iaload, 373, 0, 0, 0, 0), (.aload_n 0, 374, 0, 0, 0, 0), (.iload_n 3, 375, 0, 0, 0, 0), (.iconst 5, 376, 0, 0, 0, 0), (.iadd, 377, 0, 0, 0, 0), (.iaload, 378, 0, 0, 0, 0), (.invokevirtual 32, 381, 84, 5, 8, 382), x_0, x_0, (.aload_n 2, 382, 0, 0, 0, 0), (.aload_n 0, 383, 0, 0, 0, 0), (.iload_n 3, 384, 0, 0, 0, 0), (.iconst 1, 385, 0, 0, 0, 0), (.iadd, 386, 0, 0, 0, 0), (.iaload, 387, 0, 0, 0, 0), (.aload_n 0, 388, 0, 0, 0, 0), (.iload_n 3, 389, 0, 0, 0, 0), (.iconst 2, 390, 0, 0, 0, 0), (.iadd, 391, 0, 0, 0, 0), (.iaload, 392, 0, 0, 0, 0), (.aload_n 0, 393, 0, 0, 0, 0), (.iload_n 3, 394, 0, 0, 0, 0), (.iconst 3, 395, 0, 0, 0, 0), (.iadd, 396, 0, 0, 0, 0), (.iaload, 397, 0, 0, 0, 0), (.aload_n 0, 398, 0, 0, 0, 0), (.iload_n 3, 399, 0, 0, 0, 0), (.iconst 4, 400, 0, 0, 0, 0), (.iadd, 401, 0, 0, 0, 0), (.iaload, 402, 0, 0, 0, 0), (.aload_n 0, 403, 0, 0, 0, 0), (.iload_n 3, 404, 0, 0, 0, 0), (.iconst 5, 405, 0, 0, 0, 0), (.iadd, 406, 0, 0, 0, 0), (.iaload, 407, 0, 0, 0, 0), (.invokevirtual 36, 410, 162, 5, 9, 1087), x_0, x_0, (.if_icmp .eq 1052, 413, 1462, 0, 0, 0), x_0, x_0, (.iconst 0, 414, 0, 0, 0, 0), (.ireturn, 415, 0, 0, 0, 0), (.aload_n 1, 416, 0, 0, 0, 0), (.aload_n 0, 417, 0, 0, 0, 0), (.iload_n 3, 418, 0, 0, 0, 0), (.iconst 1, 419, 0, 0, 0, 0), (.iadd, 420, 0, 0, 0, 0), (.iaload, 421, 0, 0, 0, 0), (.invokevirtual 37, 424, 85, 1, 8, 398), x_0, x_0, (.aload_n 2, 425, 0, 0, 0, 0), (.aload_n 0, 426, 0, 0, 0, 0), (.iload_n 3, 427, 0, 0, 0, 0), (.iconst 1, 428, 0, 0, 0, 0), (.iadd, 429, 0, 0, 0, 0), (.iaload, 430, 0, 0, 0, 0), (.invokevirtual 40, 433, 163, 1, 9, 1095), x_0, x_0, (.if_icmp .eq 1029, 436, 1462, 0, 0, 0), x_0, x_0, (.iconst 0, 437, 0, 0, 0, 0), (.ireturn, 438, 0, 0, 0, 0), (.aload_n 1, 439, 0, 0, 0, 0), (.aload_n 0, 440, 0, 0, 0, 0), (.iload_n 3, 441, 0, 0, 0, 0), (.iconst 1, 442, 0, 0, 0, 0), (.iadd, 443, 0, 0, 0, 0), (.iaload, 444, 0, 0, 0, 0), (.aload_n 0, 445, 0, 0, 0, 0), (.iload_n 3, 446, 0, 0, 0, 0), (.iconst 2, 447, 0, 0, 0, 0), (.iadd, 448, 0, 0, 0, 0), (.iaload, 449, 0, 0, 0, 0), (.invokevirtual 41, 452, 86, 2, 8, 410), x_0, x_0, (.aload_n 2, 453, 0, 0, 0, 0), (.aload_n 0, 454, 0, 0, 0, 0), (.iload_n 3, 455, 0, 0, 0, 0), (.iconst 1, 456, 0, 0, 0, 0), (.iadd, 457, 0, 0, 0, 0), (.iaload, 458, 0, 0, 0, 0), (.aload_n 0, 459, 0, 0, 0, 0), (.iload_n 3, 460, 0, 0, 0, 0), (.iconst 2, 461, 0, 0, 0, 0), (.iadd, 462, 0, 0, 0, 0), (.iaload, 463, 0, 0, 0, 0), (.invokevirtual 44, 466, 164, 2, 9, 1099), x_0, x_0, (.if_icmp .eq 996, 469, 1462, 0, 0, 0), x_0, x_0, (.iconst 0, 470, 0, 0, 0, 0), (.ireturn, 471, 0, 0, 0, 0), (.aload_n 1, 472, 0, 0, 0, 0), (.aload_n 0, 473, 0, 0, 0, 0), (.iload_n 3, 474, 0, 0, 0, 0), (.iconst 1, 475, 0, 0, 0, 0), (.iadd, 476, 0, 0, 0, 0), (.iaload, 477, 0, 0, 0, 0), (.aload_n 0, 478, 0, 0, 0, 0), (.iload_n 3, 479, 0, 0, 0, 0), (.iconst 2, 480, 0, 0, 0, 0), (.iadd, 481, 0, 0, 0, 0), (.iaload, 482, 0, 0, 0, 0), (.aload_n 0, 483, 0, 0, 0, 0), (.iload_n 3, 484, 0, 0, 0, 0), (.iconst 3, 485, 0, 0, 0, 0), (.iadd, 486, 0, 0, 0, 0), (.iaload, 487, 0, 0, 0, 0), (.invokevirtual 45, 490, 87, 3, 8, 414), x_0, x_0, (.aload_n 2, 491, 0, 0, 0, 0), (.aload_n 0, 492, 0, 0, 0, 0), (.iload_n 3, 493, 0, 0, 0, 0), (.iconst 1, 494, 0, 0, 0, 0), (.iadd, 495, 0, 0, 0, 0), (.iaload, 496, 0, 0, 0, 0), (.aload_n 0, 497, 0, 0, 0, 0), (.iload_n 3, 498, 0, 0, 0, 0), (.iconst 2, 499, 0, 0, 0, 0), (.iadd, 500, 0, 0, 0, 0), (.iaload, 501, 0, 0, 0, 0), (.aload_n 0, 502, 0, 0, 0, 0), (.iload_n 3, 503, 0, 0, 0, 0), (.iconst 3, 504, 0, 0, 0, 0), (.iadd, 505, 0, 0, 0, 0), (.iaload, 506, 0, 0, 0, 0), (.invokevirtual 48, 509, 165, 3, 9, 1107), x_0, x_0, (.if_icmp .eq 953, 512, 1462, 0, 0, 0), x_0, x_0, (.iconst 0, 513, 0, 0, 0, 0), (.ireturn, 514, 0, 0, 0, 0), (.aload_n 1, 515, 0, 0, 0, 0), (.aload_n 0, 516, 0, 0, 0, 0), (.iload_n 3, 517, 0, 0, 0, 0), (.iconst 1, 518, 0, 0, 0, 0), (.iadd, 519, 0, 0, 0, 0), (.iaload, 520, 0, 0, 0, 0), (.invokevirtual 49, 523, 88, 1, 8, 418), x_0, x_0, (.aload_n 2, 524, 0, 0, 0, 0), (.aload_n 0, 525, 0, 0, 0, 0), (.iload_n 3, 526, 0, 0, 0, 0), (.iconst 1, 527, 0, 0, 0, 0), (.iadd, 528, 0, 0, 0, 0), (.iaload, 529, 0, 0, 0, 0), (.invokevirtual 52, 532, 174, 1, 9, 1111), x_0, x_0, (.if_icmp .eq 930, 535, 1462, 0, 0, 0), x_0, x_0, (.iconst 0, 536, 0, 0, 0, 0), (.ireturn, 537, 0, 0, 0, 0), (.aload_n 1, 538, 0, 0, 0, 0), (.aload_n 0, 539, 0, 0, 0, 0), (.iload_n 3, 540, 0, 0, 0, 0), (.iconst 1, 541, 0, 0, 0, 0), (.iadd, 542, 0, 0, 0, 0), (.iaload, 543, 0, 0, 0, 0), (.invokevirtual 53, 546, 89, 1, 8, 458), x_0, x_0, (.aload_n 2, 547, 0, 0, 0, 0), (.aload_n 0, 548, 0, 0, 0, 0), (.iload_n 3, 549, 0, 0, 0, 0), (.iconst 1, 550, 0, 0, 0, 0), (.iadd, 551, 0, 0, 0, 0), (.iaload, 552, 0, 0, 0, 0), (.invokevirtual 56, 555, 175, 1, 9, 1146), x_0, x_0, (.if_icmp .eq 907, 558, 1462, 0, 0, 0), x_0, x_0, (.iconst 0, 559, 0, 0, 0, 0), (.ireturn, 560, 0, 0, 0, 0), (.aload_n 1, 561, 0, 0, 0, 0), (.aload_n 0, 562, 0, 0, 0, 0), (.iload_n 3, 563, 0, 0, 0, 0), (.iconst 1, 564, 0, 0, 0, 0), (.iadd, 565, 0, 0, 0, 0), (.iaload, 566, 0, 0, 0, 0), (.aload_n 0, 567, 0, 0, 0, 0), (.iload_n 3, 568, 0, 0, 0, 0), (.iconst 2, 569, 0, 0, 0, 0), (.iadd, 570, 0, 0, 0, 0), (.iaload, 571, 0, 0, 0, 0), (.invokevirtual 57, 574, 90, 2, 8, 478), x_0, x_0, (.aload_n 2, 575, 0, 0, 0, 0), (.aload_n 0, 576, 0, 0, 0, 0), (.iload_n 3, 577, 0, 0, 0, 0), (.iconst 1, 578, 0, 0, 0, 0), (.iadd, 579, 0, 0, 0, 0), (.iaload, 580, 0, 0, 0, 0), (.aload_n 0, 581, 0, 0, 0, 0), (.iload_n 3, 582, 0, 0, 0, 0), (.iconst 2, 583, 0, 0, 0, 0), (.iadd, 584, 0, 0, 0, 0), (.iaload, 585, 0, 0, 0, 0), (.invokevirtual 60, 588, 187, 2, 9, 1150), x_0, x_0, (.if_icmp .eq 874, 591, 1462, 0, 0, 0), x_0, x_0, (.iconst 0, 592, 0, 0, 0, 0), (.ireturn, 593, 0, 0, 0, 0), (.aload_n 1, 594, 0, 0, 0, 0), (.aload_n 0, 595, 0, 0, 0, 0), (.iload_n 3, 596, 0, 0, 0, 0), (.iconst 1, 597, 0, 0, 0, 0), (.iadd, 598, 0, 0, 0, 0), (.iaload, 599, 0, 0, 0, 0), (.aload_n 0, 600, 0, 0, 0, 0), (.iload_n 3, 601, 0, 0, 0, 0), (.iconst 2, 602, 0, 0, 0, 0), (.iadd, 603, 0, 0, 0, 0), (.iaload, 604, 0, 0, 0, 0), (.invokevirtual 61, 607, 91, 2, 8, 547), x_0, x_0, (.aload_n 2, 608, 0, 0, 0, 0), (.aload_n 0, 609, 0, 0, 0, 0), (.iload_n 3, 610, 0, 0, 0, 0), (.iconst 1, 611, 0, 0, 0, 0), (.iadd, 612, 0, 0, 0, 0), (.iaload, 613, 0, 0, 0, 0), (.aload_n 0, 614, 0, 0, 0, 0), (.iload_n 3, 615, 0, 0, 0, 0), (.iconst 2, 616, 0, 0, 0, 0), (.iadd, 617, 0, 0, 0, 0), (.iaload, 618, 0, 0, 0, 0), (.invokevirtual 64, 621, 193, 2, 9, 1191), x_0, x_0, (.if_icmp .eq 841, 624, 1462, 0, 0, 0), x_0, x_0, (.iconst 0, 625, 0, 0, 0, 0), (.ireturn, 626, 0, 0, 0, 0), (.aload_n 1, 627, 0, 0, 0, 0), (.invokevirtual 65, 630, 92, 0, 8, 570), x_0, x_0, (.aload_n 2, 631, 0, 0, 0, 0), (.invokevirtual 69, 634, 196, 0, 9, 1215), x_0, x_0, (.if_icmp .eq 828, 637, 1462, 0, 0, 0), x_0, x_0, (.iconst 0, 638, 0, 0, 0, 0), (.ireturn, 639, 0, 0, 0, 0), (.aload_n 1, 640, 0, 0, 0, 0), (.aload_n 0, 641, 0, 0, 0, 0), (.iload_n 3, 642, 0, 0, 0, 0), (.iconst 1, 643, 0, 0, 0, 0), (.iadd, 644, 0, 0, 0, 0), (.iaload, 645, 0, 0, 0, 0), (.invokevirtual 70, 648, 93, 1, 8, 591), x_0, x_0, (.aload_n 2, 649, 0, 0, 0, 0), (.aload_n 0, 650, 0, 0, 0, 0), (.iload_n 3, 651, 0, 0, 0, 0), (.iconst 1, 652, 0, 0, 0, 0), (.iadd, 653, 0, 0, 0, 0), (.iaload, 654, 0, 0, 0, 0), (.invokevirtual 73, 657, 199, 1, 9, 1231), x_0, x_0, (.if_icmp .eq 805, 660, 1462, 0, 0, 0), x_0, x_0, (.iconst 0, 661, 0, 0, 0, 0), (.ireturn, 662, 0, 0, 0, 0), (.aload_n 1, 663, 0, 0, 0, 0), (.aload_n 0, 664, 0, 0, 0, 0), (.iload_n 3, 665, 0, 0, 0, 0), (.iconst 1, 666, 0, 0, 0, 0), (.iadd, 667, 0, 0, 0, 0), (.iaload, 668, 0, 0, 0, 0), (.invokevirtual 74, 671, 94, 1, 8, 607), x_0, x_0, (.aload_n 2, 672, 0, 0, 0, 0), (.aload_n 0, 673, 0, 0, 0, 0), (.iload_n 3, 674, 0, 0, 0, 0), (.iconst 1, 675, 0, 0, 0, 0), (.iadd, 676, 0, 0, 0, 0), (.iaload, 677, 0, 0, 0, 0), (.invokevirtual 77, 680, 200, 1, 9, 1245), x_0, x_0, (.if_icmp .eq 782, 683, 1462, 0, 0, 0), x_0, x_0, (.iconst 0, 684, 0, 0, 0, 0), (.ireturn, 685, 0, 0, 0, 0), (.aload_n 1, 686, 0, 0, 0, 0), (.aload_n 0, 687, 0, 0, 0, 0), (.iload_n 3, 688, 0, 0, 0, 0), (.iconst 1, 689, 0, 0, 0, 0), (.iadd, 690, 0, 0, 0, 0), (.iaload, 691, 0, 0, 0, 0), (.invokevirtual 78, 694, 95, 1, 8, 622), x_0, x_0, (.aload_n 2, 695, 0, 0, 0, 0), (.aload_n 0, 696, 0, 0, 0, 0), (.iload_n 3, 697, 0, 0, 0, 0), (.iconst 1, 698, 0, 0, 0, 0), (.iadd, 699, 0, 0, 0, 0), (.iaload, 700, 0, 0, 0, 0), (.invokevirtual 81, 703, 202, 1, 9, 1249), x_0, x_0, (.if_icmp .eq 759, 706, 1462, 0, 0, 0), x_0, x_0, (.iconst 0, 707, 0, 0, 0, 0), (.ireturn, 708, 0, 0, 0, 0), (.aload_n 1, 709, 0, 0, 0, 0), (.aload_n 0, 710, 0, 0, 0, 0), (.iload_n 3, 711, 0, 0, 0, 0), (.iconst 1, 712, 0, 0, 0, 0), (.iadd, 713, 0, 0, 0, 0), (.iaload, 714, 0, 0, 0, 0), (.invokevirtual 82, 717, 96, 1, 8, 631), x_0, x_0, (.aload_n 2, 718, 0, 0, 0, 0), (.aload_n 0, 719, 0, 0, 0, 0), (.iload_n 3, 720, 0, 0, 0, 0), (.iconst 1, 721, 0, 0, 0, 0), (.iadd, 722, 0, 0, 0, 0), (.iaload, 723, 0, 0, 0, 0), (.invokevirtual 85, 726, 203, 1, 9, 1258), x_0, x_0, (.if_icmp .eq 736, 729, 1462, 0, 0, 0), x_0, x_0, (.iconst 0, 730, 0, 0, 0, 0), (.ireturn, 731, 0, 0, 0, 0), (.aload_n 1, 732, 0, 0, 0, 0), (.aload_n 0, 733, 0, 0, 0, 0), (.iload_n 3, 734, 0, 0, 0, 0), (.iconst 1, 735, 0, 0, 0, 0), (.iadd, 736, 0, 0, 0, 0), (.iaload, 737, 0, 0, 0, 0), (.aload_n 0, 738, 0, 0, 0, 0), (.iload_n 3, 739, 0, 0, 0, 0), (.iconst 2, 740, 0, 0, 0, 0), (.iadd, 741, 0, 0, 0, 0), (.iaload, 742, 0, 0, 0, 0), (.invokevirtual 86, 745, 97, 2, 8, 639), x_0, x_0, (.aload_n 2, 746, 0, 0, 0, 0), (.aload_n 0, 747, 0, 0, 0, 0), (.iload_n 3, 748, 0, 0, 0, 0), (.iconst 1, 749, 0, 0, 0, 0), (.iadd, 750, 0, 0, 0, 0), (.iaload, 751, 0, 0, 0, 0), (.aload_n 0, 752, 0, 0, 0, 0), (.iload_n 3, 753, 0, 0, 0, 0), (.iconst 2, 754, 0, 0, 0, 0), (.iadd, 755, 0, 0, 0, 0), (.iaload, 756, 0, 0, 0, 0), (.invokevirtual 89, 759, 205, 2, 9, 1262), x_0, x_0, (.if_icmp .eq 703, 762, 1462, 0, 0, 0), x_0, x_0, (.iconst 0, 763, 0, 0, 0, 0), (.ireturn, 764, 0, 0, 0, 0), (.aload_n 1, 765, 0, 0, 0, 0), (.aload_n 0, 766, 0, 0, 0, 0), (.iload_n 3, 767, 0, 0, 0, 0), (.iconst 1, 768, 0, 0, 0, 0), (.iadd, 769, 0, 0, 0, 0), (.iaload, 770, 0, 0, 0, 0), (.aload_n 0, 771, 0, 0, 0, 0), (.iload_n 3, 772, 0, 0, 0, 0), (.iconst 2, 773, 0, 0, 0, 0), (.iadd, 774, 0, 0, 0, 0), (.iaload, 775, 0, 0, 0, 0), (.invokevirtual 90, 778, 98, 2, 8, 646), x_0, x_0, (.aload_n 2, 779, 0, 0, 0, 0), (.aload_n 0, 780, 0, 0, 0, 0), (.iload_n 3, 781, 0, 0, 0, 0), (.iconst 1, 782, 0, 0, 0, 0), (.iadd, 783, 0, 0, 0, 0), (.iaload, 784, 0, 0, 0, 0), (.aload_n 0, 785, 0, 0, 0, 0), (.iload_n 3, 786, 0, 0, 0, 0), (.iconst 2, 787, 0, 0, 0, 0), (.iadd, 788, 0, 0, 0, 0), (.iaload, 789, 0, 0, 0, 0), (.invokevirtual 93, 792, 206, 2, 9, 1270), x_0, x_0, (.if_icmp .eq 670, 795, 1462, 0, 0, 0), x_0, x_0, (.iconst 0, 796, 0, 0, 0, 0), (.ireturn, 797, 0, 0, 0, 0), (.aload_n 1, 798, 0, 0, 0, 0), (.aload_n 0, 799, 0, 0, 0, 0), (.iload_n 3, 800, 0, 0, 0, 0), (.iconst 1, 801, 0, 0, 0, 0), (.iadd, 802, 0, 0, 0, 0), (.iaload, 803, 0, 0, 0, 0), (.invokevirtual 94, 806, 99, 1, 8, 650), x_0, x_0, (.aload_n 2, 807, 0, 0, 0, 0), (.aload_n 0, 808, 0, 0, 0, 0), (.iload_n 3, 809, 0, 0, 0, 0), (.iconst 1, 810, 0, 0, 0, 0), (.iadd, 811, 0, 0, 0, 0), (.iaload, 812, 0, 0, 0, 0), (.invokevirtual 97, 815, 207, 1, 9, 1274), x_0, x_0, (.if_icmp .eq 647, 818, 1462, 0, 0, 0), x_0, x_0, (.iconst 0, 819, 0, 0, 0, 0), (.ireturn, 820, 0, 0, 0, 0), (.aload_n 1, 821, 0, 0, 0, 0), (.aload_n 0, 822, 0, 0, 0, 0), (.iload_n 3, 823, 0, 0, 0, 0), (.iconst 1, 824, 0, 0, 0, 0), (.iadd, 825, 0, 0, 0, 0), (.iaload, 826, 0, 0, 0, 0), (.invokevirtual 98, 829, 100, 1, 8, 654), x_0, x_0, (.aload_n 2, 830, 0, 0, 0, 0), (.aload_n 0, 831, 0, 0, 0, 0), (.iload_n 3, 832, 0, 0, 0, 0), (.iconst 1, 833, 0, 0, 0, 0), (.iadd, 834, 0, 0, 0, 0), (.iaload, 835, 0, 0, 0, 0), (.invokevirtual 101, 838, 208, 1, 9, 1278), x_0, x_0, (.if_icmp .eq 624, 841, 1462, 0, 0, 0), x_0, x_0, (.iconst 0, 842, 0, 0, 0, 0), (.ireturn, 843, 0, 0, 0, 0), (.aload_n 1, 844, 0, 0, 0, 0), (.aload_n 0, 845, 0, 0, 0, 0), (.iload_n 3, 846, 0, 0, 0, 0), (.iconst 1, 847, 0, 0, 0, 0), (.iadd, 848, 0, 0, 0, 0), (.iaload, 849, 0, 0, 0, 0), (.invokevirtual 102, 852, 101, 1, 8, 658), x_0, x_0, (.aload_n 2, 853, 0, 0, 0, 0), (.aload_n 0, 854, 0, 0, 0, 0), (.iload_n 3, 855, 0, 0, 0, 0), (.iconst 1, 856, 0, 0, 0, 0), (.iadd, 857, 0, 0, 0, 0), (.iaload, 858, 0, 0, 0, 0), (.invokevirtual 105, 861, 210, 1, 9, 1282), x_0, x_0, (.if_icmp .eq 601, 864, 1462, 0, 0, 0), x_0, x_0, (.iconst 0, 865, 0, 0, 0, 0), (.ireturn, 866, 0, 0, 0, 0), (.aload_n 1, 867, 0, 0, 0, 0), (.aload_n 0, 868, 0, 0, 0, 0), (.iload_n 3, 869, 0, 0, 0, 0), (.iconst 1, 870, 0, 0, 0, 0), (.iadd, 871, 0, 0, 0, 0), (.iaload, 872, 0, 0, 0, 0), (.invokevirtual 106, 875, 102, 1, 8, 667), x_0, x_0, (.aload_n 2, 876, 0, 0, 0, 0), (.aload_n 0, 877, 0, 0, 0, 0), (.iload_n 3, 878, 0, 0, 0, 0), (.iconst 1, 879, 0, 0, 0, 0), (.iadd, 880, 0, 0, 0, 0), (.iaload, 881, 0, 0, 0, 0), (.invokevirtual 109, 884, 211, 1, 9, 1290), x_0, x_0, (.if_icmp .eq 578, 887, 1462, 0, 0, 0), x_0, x_0, (.iconst 0, 888, 0, 0, 0, 0), (.ireturn, 889, 0, 0, 0, 0), (.aload_n 1, 890, 0, 0, 0, 0), (.aload_n 0, 891, 0, 0, 0, 0), (.iload_n 3, 892, 0, 0, 0, 0), (.iconst 1, 893, 0, 0, 0, 0), (.iadd, 894, 0, 0, 0, 0), (.iaload, 895, 0, 0, 0, 0), (.aload_n 0, 896, 0, 0, 0, 0), (.iload_n 3, 897, 0, 0, 0, 0), (.iconst 2, 898, 0, 0, 0, 0), (.iadd, 899, 0, 0, 0, 0), (.iaload, 900, 0, 0, 0, 0), (.aload_n 0, 901, 0, 0, 0, 0), (.iload_n 3, 902, 0, 0, 0, 0), (.iconst 3, 903, 0, 0, 0, 0), (.iadd, 904, 0, 0, 0, 0), (.iaload, 905, 0, 0, 0, 0), (.invokevirtual 110, 908, 103, 3, 8, 672), x_0, x_0, (.aload_n 2, 909, 0, 0, 0, 0), (.aload_n 0, 910, 0, 0, 0, 0), (.iload_n 3, 911, 0, 0, 0, 0), (.iconst 1, 912, 0, 0, 0, 0), (.iadd, 913, 0, 0, 0, 0), (.iaload, 914, 0, 0, 0, 0), (.aload_n 0, 915, 0, 0, 0, 0), (.iload_n 3, 916, 0, 0, 0, 0), (.iconst 2, 917, 0, 0, 0, 0), (.iadd, 918, 0, 0, 0, 0), (.iaload, 919, 0, 0, 0, 0), (.aload_n 0, 920, 0, 0, 0, 0), (.iload_n 3, 921, 0, 0, 0, 0), (.iconst 3, 922, 0, 0, 0, 0), (.iadd, 923, 0, 0, 0, 0), (.iaload, 924, 0, 0, 0, 0), (.invokevirtual 113, 927, 216, 3, 9, 1294), x_0, x_0, (.if_icmp .eq 535, 930, 1462, 0, 0, 0), x_0, x_0, (.iconst 0, 931, 0, 0, 0, 0), (.ireturn, 932, 0, 0, 0, 0), (.aload_n 1, 933, 0, 0, 0, 0), (.aload_n 0, 934, 0, 0, 0, 0), (.iload_n 3, 935, 0, 0, 0, 0), (.iconst 1, 936, 0, 0, 0, 0), (.iadd, 937, 0, 0, 0, 0), (.iaload, 938, 0, 0, 0, 0), (.aload_n 0, 939, 0, 0, 0, 0), (.iload_n 3, 940, 0, 0, 0, 0), (.iconst 2, 941, 0, 0, 0, 0), (.iadd, 942, 0, 0, 0, 0), (.iaload, 943, 0, 0, 0, 0), (.invokevirtual 114, 946, 104, 2, 8, 716), x_0, x_0, (.aload_n 2, 947, 0, 0, 0, 0), (.aload_n 0, 948, 0, 0, 0, 0), (.iload_n 3, 949, 0, 0, 0, 0), (.iconst 1, 950, 0, 0, 0, 0), (.iadd, 951, 0, 0, 0, 0), (.iaload, 952, 0, 0, 0, 0), (.aload_n 0, 953, 0, 0, 0, 0), (.iload_n 3, 954, 0, 0, 0, 0), (.iconst 2, 955, 0, 0, 0, 0), (.iadd, 956, 0, 0, 0, 0), (.iaload, 957, 0, 0, 0, 0), (.invokevirtual 117, 960, 217, 2, 9, 1316), x_0, x_0, (.if_icmp .eq 502, 963, 1462, 0, 0, 0), x_0, x_0, (.iconst 0, 964, 0, 0, 0, 0), (.ireturn, 965, 0, 0, 0, 0), (.aload_n 1, 966, 0, 0, 0, 0), (.aload_n 0, 967, 0, 0, 0, 0), (.iload_n 3, 968, 0, 0, 0, 0), (.iconst 1, 969, 0, 0, 0, 0), (.iadd, 970, 0, 0, 0, 0), (.iaload, 971, 0, 0, 0, 0), (.aload_n 0, 972, 0, 0, 0, 0), (.iload_n 3, 973, 0, 0, 0, 0), (.iconst 2, 974, 0, 0, 0, 0), (.iadd, 975, 0, 0, 0, 0), (.iaload, 976, 0, 0, 0, 0), (.aload_n 0, 977, 0, 0, 0, 0), (.iload_n 3, 978, 0, 0, 0, 0), (.iconst 3, 979, 0, 0, 0, 0), (.iadd, 980, 0, 0, 0, 0), (.iaload, 981, 0, 0, 0, 0), (.invokevirtual 118, 984, 105, 3, 8, 720), x_0, x_0, (.aload_n 2, 985, 0, 0, 0, 0), (.aload_n 0, 986, 0, 0, 0, 0), (.iload_n 3, 987, 0, 0, 0, 0), (.iconst 1, 988, 0, 0, 0, 0), (.iadd, 989, 0, 0, 0, 0), (.iaload, 990, 0, 0, 0, 0), (.aload_n 0, 991, 0, 0, 0, 0), (.iload_n 3, 992, 0, 0, 0, 0), (.iconst 2, 993, 0, 0, 0, 0), (.iadd, 994, 0, 0, 0, 0), (.iaload, 995, 0, 0, 0, 0), (.aload_n 0, 996, 0, 0, 0, 0), (.iload_n 3, 997, 0, 0, 0, 0), (.iconst 3, 998, 0, 0, 0, 0), (.iadd, 999, 0, 0, 0, 0), (.iaload, 1000, 0, 0, 0, 0), (.invokevirtual 121, 1003, 218, 3, 9, 1320), x_0, x_0, (.if_icmp .eq 459, 1006, 1462, 0, 0, 0), x_0, x_0, (.iconst 0, 1007, 0, 0, 0, 0), (.ireturn, 1008, 0, 0, 0, 0), (.aload_n 1, 1009, 0, 0, 0, 0), (.aload_n 0, 1010, 0, 0, 0, 0), (.iload_n 3, 1011, 0, 0, 0, 0), (.iconst 1, 1012, 0, 0, 0, 0), (.iadd, 1013, 0, 0, 0, 0), (.iaload, 1014, 0, 0, 0, 0), (.aload_n 0, 1015, 0, 0, 0, 0), (.iload_n 3, 1016, 0, 0, 0, 0), (.iconst 2, 1017, 0, 0, 0, 0), (.iadd, 1018, 0, 0, 0, 0), (.iaload, 1019, 0, 0, 0, 0), (.invokevirtual 122, 1022, 106, 2, 8, 738), x_0, x_0, (.aload_n 2, 1023, 0, 0, 0, 0), (.aload_n 0, 1024, 0, 0, 0, 0), (.iload_n 3, 1025, 0, 0, 0, 0), (.iconst 1, 1026, 0, 0, 0, 0), (.iadd, 1027, 0, 0, 0, 0), (.iaload, 1028, 0, 0, 0, 0), (.aload_n 0, 1029, 0, 0, 0, 0), (.iload_n 3, 1030, 0, 0, 0, 0), (.iconst 2, 1031, 0, 0, 0, 0), (.iadd, 1032, 0, 0, 0, 0), (.iaload, 1033, 0, 0, 0, 0), (.invokevirtual 125, 1036, 221, 2, 9, 1325), x_0, x_0, (.if_icmp .eq 426, 1039, 1462, 0, 0, 0), x_0, x_0, (.iconst 0, 1040, 0, 0, 0, 0), (.ireturn, 1041, 0, 0, 0, 0), (.aload_n 1, 1042, 0, 0, 0, 0), (.aload_n 0, 1043, 0, 0, 0, 0), (.iload_n 3, 1044, 0, 0, 0, 0), (.iconst 1, 1045, 0, 0, 0, 0), (.iadd, 1046, 0, 0, 0, 0), (.iaload, 1047, 0, 0, 0, 0), (.invokevirtual 126, 1050, 107, 1, 8, 751), x_0, x_0, (.aload_n 2, 1051, 0, 0, 0, 0), (.aload_n 0, 1052, 0, 0, 0, 0), (.iload_n 3, 1053, 0, 0, 0, 0), (.iconst 1, 1054, 0, 0, 0, 0), (.iadd, 1055, 0, 0, 0, 0), (.iaload, 1056, 0, 0, 0, 0), (.invokevirtual 129, 1059, 224, 1, 9, 1337), x_0, x_0, (.if_icmp .eq 403, 1062, 1462, 0, 0, 0), x_0, x_0, (.iconst 0, 1063, 0, 0, 0, 0), (.ireturn, 1064, 0, 0, 0, 0), (.aload_n 1, 1065, 0, 0, 0, 0), (.aload_n 0, 1066, 0, 0, 0, 0), (.iload_n 3, 1067, 0, 0, 0, 0), (.iconst 1, 1068, 0, 0, 0, 0), (.iadd, 1069, 0, 0, 0, 0), (.iaload, 1070, 0, 0, 0, 0), (.aload_n 0, 1071, 0, 0, 0, 0), (.iload_n 3, 1072, 0, 0, 0, 0), (.iconst 2, 1073, 0, 0, 0, 0), (.iadd, 1074, 0, 0, 0, 0), (.iaload, 1075, 0, 0, 0, 0), (.invokevirtual 130, 1078, 108, 2, 8, 774), x_0, x_0, (.aload_n 2, 1079, 0, 0, 0, 0), (.aload_n 0, 1080, 0, 0, 0, 0), (.iload_n 3, 1081, 0, 0, 0, 0), (.iconst 1, 1082, 0, 0, 0, 0), (.iadd, 1083, 0, 0, 0, 0), (.iaload, 1084, 0, 0, 0, 0), (.aload_n 0, 1085, 0, 0, 0, 0), (.iload_n 3, 1086, 0, 0, 0, 0), (.iconst 2, 1087, 0, 0, 0, 0), (.iadd, 1088, 0, 0, 0, 0), (.iaload, 1089, 0, 0, 0, 0), (.invokevirtual 133, 1092, 227, 2, 9, 1349), x_0, x_0, (.if_icmp .eq 370, 1095, 1462, 0, 0, 0), x_0, x_0, (.iconst 0, 1096, 0, 0, 0, 0), (.ireturn, 1097, 0, 0, 0, 0), (.aload_n 1, 1098, 0, 0, 0, 0), (.aload_n 0, 1099, 0, 0, 0, 0), (.iload_n 3, 1100, 0, 0, 0, 0), (.iconst 1, 1101, 0, 0, 0, 0), (.iadd, 1102, 0, 0, 0, 0), (.iaload, 1103, 0, 0, 0, 0), (.aload_n 0, 1104, 0, 0, 0, 0), (.iload_n 3, 1105, 0, 0, 0, 0), (.iconst 2, 1106, 0, 0, 0, 0), (.iadd, 1107, 0, 0, 0, 0), (.iaload, 1108, 0, 0, 0, 0), (.invokevirtual 134, 1111, 109, 2, 8, 796), x_0, x_0, (.aload_n 2, 1112, 0, 0, 0, 0), (.aload_n 0, 1113, 0, 0, 0, 0), (.iload_n 3, 1114, 0, 0, 0, 0), (.iconst 1, 1115, 0, 0, 0, 0), (.iadd, 1116, 0, 0, 0, 0), (.iaload, 1117, 0, 0, 0, 0), (.aload_n 0, 1118, 0, 0, 0, 0), (.iload_n 3, 1119, 0, 0, 0, 0), (.iconst 2, 1120, 0, 0, 0, 0), (.iadd, 1121, 0, 0, 0, 0), (.iaload, 1122, 0, 0, 0, 0), (.invokevirtual 137, 1125, 228, 2, 9, 1362), x_0, x_0, (.if_icmp .eq 337, 1128, 1462, 0, 0, 0), x_0, x_0, (.iconst 0, 1129, 0, 0, 0, 0), (.ireturn, 1130, 0, 0, 0, 0), (.aload_n 1, 1131, 0, 0, 0, 0), (.aload_n 0, 1132, 0, 0, 0, 0), (.iload_n 3, 1133, 0, 0, 0, 0), (.iconst 1, 1134, 0, 0, 0, 0), (.iadd, 1135, 0, 0, 0, 0), (.iaload, 1136, 0, 0, 0, 0), (.aload_n 0, 1137, 0, 0, 0, 0), (.iload_n 3, 1138, 0, 0, 0, 0), (.iconst 2, 1139, 0, 0, 0, 0), (.iadd, 1140, 0, 0, 0, 0), (.iaload, 1141, 0, 0, 0, 0), (.invokevirtual 138, 1144, 110, 2, 8, 800), x_0, x_0, (.aload_n 2, 1145, 0, 0, 0, 0), (.aload_n 0, 1146, 0, 0, 0, 0), (.iload_n 3, 1147, 0, 0, 0, 0), (.iconst 1, 1148, 0, 0, 0, 0), (.iadd, 1149, 0, 0, 0, 0), (.iaload, 1150, 0, 0, 0, 0), (.aload_n 0, 1151, 0, 0, 0, 0), (.iload_n 3, 1152, 0, 0, 0, 0), (.iconst 2, 1153, 0, 0, 0, 0), (.iadd, 1154, 0, 0, 0, 0), (.iaload, 1155, 0, 0, 0, 0), (.invokevirtual 141, 1158, 229, 2, 9, 1366), x_0, x_0, (.if_icmp .eq 304, 1161, 1462, 0, 0, 0), x_0, x_0, (.iconst 0, 1162, 0, 0, 0, 0), (.ireturn, 1163, 0, 0, 0, 0), (.aload_n 1, 1164, 0, 0, 0, 0), (.aload_n 0, 1165, 0, 0, 0, 0), (.iload_n 3, 1166, 0, 0, 0, 0), (.iconst 1, 1167, 0, 0, 0, 0), (.iadd, 1168, 0, 0, 0, 0), (.iaload, 1169, 0, 0, 0, 0), (.aload_n 0, 1170, 0, 0, 0, 0), (.iload_n 3, 1171, 0, 0, 0, 0), (.iconst 2, 1172, 0, 0, 0, 0), (.iadd, 1173, 0, 0, 0, 0), (.iaload, 1174, 0, 0, 0, 0), (.invokevirtual 142, 1177, 111, 2, 8, 804), x_0, x_0, (.aload_n 2, 1178, 0, 0, 0, 0), (.aload_n 0, 1179, 0, 0, 0, 0), (.iload_n 3, 1180, 0, 0, 0, 0), (.iconst 1, 1181, 0, 0, 0, 0), (.iadd, 1182, 0, 0, 0, 0), (.iaload, 1183, 0, 0, 0, 0), (.aload_n 0, 1184, 0, 0, 0, 0), (.iload_n 3, 1185, 0, 0, 0, 0), (.iconst 2, 1186, 0, 0, 0, 0), (.iadd, 1187, 0, 0, 0, 0), (.iaload, 1188, 0, 0, 0, 0), (.invokevirtual 145, 1191, 230, 2, 9, 1370), x_0, x_0, (.if_icmp .eq 271, 1194, 1462, 0, 0, 0), x_0, x_0, (.iconst 0, 1195, 0, 0, 0, 0), (.ireturn, 1196, 0, 0, 0, 0), (.aload_n 1, 1197, 0, 0, 0, 0), (.aload_n 0, 1198, 0, 0, 0, 0), (.iload_n 3, 1199, 0, 0, 0, 0), (.iconst 1, 1200, 0, 0, 0, 0), (.iadd, 1201, 0, 0, 0, 0), (.iaload, 1202, 0, 0, 0, 0), (.aload_n 0, 1203, 0, 0, 0, 0), (.iload_n 3, 1204, 0, 0, 0, 0), (.iconst 2, 1205, 0, 0, 0, 0), (.iadd, 1206, 0, 0, 0, 0), (.iaload, 1207, 0, 0, 0, 0), (.invokevirtual 146, 1210, 112, 2, 8, 816), x_0, x_0, (.aload_n 2, 1211, 0, 0, 0, 0), (.aload_n 0, 1212, 0, 0, 0, 0), (.iload_n 3, 1213, 0, 0, 0, 0), (.iconst 1, 1214, 0, 0, 0, 0), (.iadd, 1215, 0, 0, 0, 0), (.iaload, 1216, 0, 0, 0, 0), (.aload_n 0, 1217, 0, 0, 0, 0), (.iload_n 3, 1218, 0, 0, 0, 0), (.iconst 2, 1219, 0, 0, 0, 0), (.iadd, 1220, 0, 0, 0, 0), (.iaload, 1221, 0, 0, 0, 0), (.invokevirtual 149, 1224, 232, 2, 9, 1374), x_0, x_0, (.if_icmp .eq 238, 1227, 1462, 0, 0, 0), x_0, x_0, (.iconst 0, 1228, 0, 0, 0, 0), (.ireturn, 1229, 0, 0, 0, 0), (.aload_n 1, 1230, 0, 0, 0, 0), (.aload_n 0, 1231, 0, 0, 0, 0), (.iload_n 3, 1232, 0, 0, 0, 0), (.iconst 1, 1233, 0, 0, 0, 0), (.iadd, 1234, 0, 0, 0, 0), (.iaload, 1235, 0, 0, 0, 0), (.aload_n 0, 1236, 0, 0, 0, 0), (.iload_n 3, 1237, 0, 0, 0, 0), (.iconst 2, 1238, 0, 0, 0, 0), (.iadd, 1239, 0, 0, 0, 0), (.iaload, 1240, 0, 0, 0, 0), (.aload_n 0, 1241, 0, 0, 0, 0), (.iload_n 3, 1242, 0, 0, 0, 0), (.iconst 3, 1243, 0, 0, 0, 0), (.iadd, 1244, 0, 0, 0, 0), (.iaload, 1245, 0, 0, 0, 0), (.invokevirtual 150, 1248, 113, 3, 8, 828), x_0, x_0, (.aload_n 2, 1249, 0, 0, 0, 0), (.aload_n 0, 1250, 0, 0, 0, 0), (.iload_n 3, 1251, 0, 0, 0, 0), (.iconst 1, 1252, 0, 0, 0, 0), (.iadd, 1253, 0, 0, 0, 0), (.iaload, 1254, 0, 0, 0, 0), (.aload_n 0, 1255, 0, 0, 0, 0), (.iload_n 3, 1256, 0, 0, 0, 0), (.iconst 2, 1257, 0, 0, 0, 0), (.iadd, 1258, 0, 0, 0, 0), (.iaload, 1259, 0, 0, 0, 0), (.aload_n 0, 1260, 0, 0, 0, 0), (.iload_n 3, 1261, 0, 0, 0, 0), (.iconst 3, 1262, 0, 0, 0, 0), (.iadd, 1263, 0, 0, 0, 0), (.iaload, 1264, 0, 0, 0, 0), (.invokevirtual 153, 1267, 237, 3, 9, 1383), x_0, x_0, (.if_icmp .eq 195, 1270, 1462, 0, 0, 0), x_0, x_0, (.iconst 0, 1271, 0, 0, 0, 0), (.ireturn, 1272, 0, 0, 0, 0), (.aload_n 1, 1273, 0, 0, 0, 0), (.aload_n 0, 1274, 0, 0, 0, 0), (.iload_n 3, 1275, 0, 0, 0, 0), (.iconst 1, 1276, 0, 0, 0, 0), (.iadd, 1277, 0, 0, 0, 0), (.iaload, 1278, 0, 0, 0, 0), (.aload_n 0, 1279, 0, 0, 0, 0), (.iload_n 3, 1280, 0, 0, 0, 0), (.iconst 2, 1281, 0, 0, 0, 0), (.iadd, 1282, 0, 0, 0, 0), (.iaload, 1283, 0, 0, 0, 0), (.aload_n 0, 1284, 0, 0, 0, 0), (.iload_n 3, 1285, 0, 0, 0, 0), (.iconst 3, 1286, 0, 0, 0, 0), (.iadd, 1287, 0, 0, 0, 0), (.iaload, 1288, 0, 0, 0, 0), (.invokevirtual 154, 1291, 114, 3, 8, 871), x_0, x_0, (.aload_n 2, 1292, 0, 0, 0, 0), (.aload_n 0, 1293, 0, 0, 0, 0), (.iload_n 3, 1294, 0, 0, 0, 0), (.iconst 1, 1295, 0, 0, 0, 0), (.iadd, 1296, 0, 0, 0, 0), (.iaload, 1297, 0, 0, 0, 0), (.aload_n 0, 1298, 0, 0, 0, 0), (.iload_n 3, 1299, 0, 0, 0, 0), (.iconst 2, 1300, 0, 0, 0, 0), (.iadd, 1301, 0, 0, 0, 0), (.iaload, 1302, 0, 0, 0, 0), (.aload_n 0, 1303, 0, 0, 0, 0), (.iload_n 3, 1304, 0, 0, 0, 0), (.iconst 3, 1305, 0, 0, 0, 0), (.iadd, 1306, 0, 0, 0, 0), (.iaload, 1307, 0, 0, 0, 0), (.invokevirtual 157, 1310, 238, 3, 9, 1407), x_0, x_0, (.if_icmp .eq 152, 1313, 1462, 0, 0, 0), x_0, x_0, (.iconst 0, 1314, 0, 0, 0, 0), (.ireturn, 1315, 0, 0, 0, 0), (.aload_n 1, 1316, 0, 0, 0, 0), (.aload_n 0, 1317, 0, 0, 0, 0), (.iload_n 3, 1318, 0, 0, 0, 0), (.iconst 1, 1319, 0, 0, 0, 0), (.iadd, 1320, 0, 0, 0, 0), (.iaload, 1321, 0, 0, 0, 0), (.aload_n 0, 1322, 0, 0, 0, 0), (.iload_n 3, 1323, 0, 0, 0, 0), (.iconst 2, 1324, 0, 0, 0, 0), (.iadd, 1325, 0, 0, 0, 0), (.iaload, 1326, 0, 0, 0, 0), (.invokevirtual 158, 1329, 115, 2, 8, 875), x_0, x_0, (.aload_n 2, 1330, 0, 0, 0, 0), (.aload_n 0, 1331, 0, 0, 0, 0), (.iload_n 3, 1332, 0, 0, 0, 0), (.iconst 1, 1333, 0, 0, 0, 0), (.iadd, 1334, 0, 0, 0, 0), (.iaload, 1335, 0, 0, 0, 0), (.aload_n 0, 1336, 0, 0, 0, 0), (.iload_n 3, 1337, 0, 0, 0, 0), (.iconst 2, 1338, 0, 0, 0, 0), (.iadd, 1339, 0, 0, 0, 0), (.iaload, 1340, 0, 0, 0, 0), (.invokevirtual 161, 1343, 239, 2, 9, 1411), x_0, x_0, (.if_icmp .eq 119, 1346, 1462, 0, 0, 0), x_0, x_0, (.iconst 0, 1347, 0, 0, 0, 0), (.ireturn, 1348, 0, 0, 0, 0), (.aload_n 1, 1349, 0, 0, 0, 0), (.invokevirtual 162, 1352, 116, 0, 8, 884), x_0, x_0, (.aload_n 2, 1353, 0, 0, 0, 0), (.invokevirtual 165, 1356, 240, 0, 9, 1420), x_0, x_0, (.if_icmp .eq 106, 1359, 1462, 0, 0, 0), x_0, x_0, (.iconst 0, 1360, 0, 0, 0, 0), (.ireturn, 1361, 0, 0, 0, 0), (.aload_n 1, 1362, 0, 0, 0, 0), (.invokevirtual 166, 1365, 117, 0, 8, 888), x_0, x_0, (.aload_n 2, 1366, 0, 0, 0, 0), (.invokevirtual 170, 1369, 241, 0, 9, 1424), x_0, x_0, (.lcmp, 1370, 0, 0, 0, 0), (.ifCond .eq 92, 1373, 1462, 0, 0, 0), x_0, x_0, (.iconst 0, 1374, 0, 0, 0, 0), (.ireturn, 1375, 0, 0, 0, 0), (.aload_n 1, 1376, 0, 0, 0, 0), (.invokevirtual 171, 1379, 118, 0, 8, 892), x_0, x_0, (.aload_n 2, 1380, 0, 0, 0, 0), (.invokevirtual 174, 1383, 242, 0, 9, 1428), x_0, x_0, (.lcmp, 1384, 0, 0, 0, 0), (.ifCond .eq 78, 1387, 1462, 0, 0, 0), x_0, x_0, (.iconst 0, 1388, 0, 0, 0, 0), (.ireturn, 1389, 0, 0, 0, 0), (.aload_n 1, 1390, 0, 0, 0, 0), (.aload_n 0, 1391, 0, 0, 0, 0), (.iload_n 3, 1392, 0, 0, 0, 0), (.iconst 1, 1393, 0, 0, 0, 0), (.iadd, 1394, 0, 0, 0, 0), (.iaload, 1395, 0, 0, 0, 0), (.invokevirtual 175, 1398, 119, 1, 8, 896), x_0, x_0, (.aload_n 2, 1399, 0, 0, 0, 0), (.aload_n 0, 1400, 0, 0, 0, 0), (.iload_n 3, 1401, 0, 0, 0, 0), (.iconst 1, 1402, 0, 0, 0, 0), (.iadd, 1403, 0, 0, 0, 0), (.iaload, 1404, 0, 0, 0, 0), (.invokevirtual 178, 1407, 246, 1, 9, 1432), x_0, x_0, (.if_icmp .eq 55, 1410, 1462, 0, 0, 0), x_0, x_0, (.iconst 0, 1411, 0, 0, 0, 0), (.ireturn, 1412, 0, 0, 0, 0), (.aload_n 1, 1413, 0, 0, 0, 0), (.invokevirtual 179, 1416, 120, 0, 8, 923), x_0, x_0, (.aload_n 2, 1417, 0, 0, 0, 0), (.invokevirtual 182, 1420, 247, 0, 9, 1449), x_0, x_0, (.if_icmp .eq 42, 1423, 1462, 0, 0, 0), x_0, x_0, (.iconst 0, 1424, 0, 0, 0, 0), (.ireturn, 1425, 0, 0, 0, 0), (.aload_n 1, 1426, 0, 0, 0, 0), (.aload_n 0, 1427, 0, 0, 0, 0), (.iload_n 3, 1428, 0, 0, 0, 0), (.iconst 1, 1429, 0, 0, 0, 0), (.iadd, 1430, 0, 0, 0, 0), (.iaload, 1431, 0, 0, 0, 0), (.invokevirtual 183, 1434, 121, 1, 8, 927), x_0, x_0, (.aload_n 2, 1435, 0, 0, 0, 0), (.aload_n 0, 1436, 0, 0, 0, 0), (.iload_n 3, 1437, 0, 0, 0, 0), (.iconst 1, 1438, 0, 0, 0, 0), (.iadd, 1439, 0, 0, 0, 0), (.iaload, 1440, 0, 0, 0, 0), (.invokevirtual 186, 1443, 248, 1, 9, 1453), x_0, x_0, (.if_icmp .eq 19, 1446, 1462, 0, 0, 0), x_0, x_0, (.iconst 0, 1447, 0, 0, 0, 0), (.ireturn, 1448, 0, 0, 0, 0), (.aload_n 1, 1449, 0, 0, 0, 0), (.invokevirtual 187, 1452, 122, 0, 8, 931), x_0, x_0, (.aload_n 2, 1453, 0, 0, 0, 0), (.invokevirtual 190, 1456, 249, 0, 9, 1457), x_0, x_0, (.lcmp, 1457, 0, 0, 0, 0), (.ifCond .eq 5, 1460, 1462, 0, 0, 0), x_0, x_0, (.iconst 0, 1461, 0, 0, 0, 0), (.ireturn, 1462, 0, 0, 0, 0), (.iinc 3 6, 1465, 0, 0, 0, 0), x_0, x_0, (.goto (-1447), 1468, 18, 0, 0, 0), x_0, x_0, (.iconst 1, 1469, 0, 0, 0, 0), (.ireturn, 1470, 0, 0, 0, 0)])
set_option maxRecDepth 20000 in
theorem tX0_init : xT[0]? = some mX0_init := rfl
set_option maxRecDepth 20000 in
theorem tX0_least : xT[1]? = some mX0_least := rfl
set_option maxRecDepth 20000 in
theorem tX0_writeTurns : xT[2]? = some mX0_writeTurns := rfl
set_option maxRecDepth 20000 in
theorem tX0_leastBehind : xT[3]? = some mX0_leastBehind := rfl
set_option maxRecDepth 20000 in
theorem tX0_mostWithin : xT[4]? = some mX0_mostWithin := rfl
set_option maxRecDepth 20000 in
theorem tX0_raiseMost : xT[5]? = some mX0_raiseMost := rfl
set_option maxRecDepth 20000 in
theorem tX0_mostByCloud : xT[6]? = some mX0_mostByCloud := rfl
set_option maxRecDepth 20000 in
theorem tX0_mostBehindClouds : xT[7]? = some mX0_mostBehindClouds := rfl
set_option maxRecDepth 20000 in
theorem tX0_leastOrder : xT[8]? = some mX0_leastOrder := rfl
set_option maxRecDepth 20000 in
theorem tX0_lowerOrders : xT[9]? = some mX0_lowerOrders := rfl
set_option maxRecDepth 20000 in
theorem tX0_swapTables : xT[10]? = some mX0_swapTables := rfl
set_option maxRecDepth 20000 in
theorem tX1_init : xT[11]? = some mX1_init := rfl
set_option maxRecDepth 20000 in
theorem tX1_become : xT[12]? = some mX1_become := rfl
set_option maxRecDepth 20000 in
theorem tX1_standAt : xT[13]? = some mX1_standAt := rfl
set_option maxRecDepth 20000 in
theorem tX1_kind : xT[14]? = some mX1_kind := rfl
set_option maxRecDepth 20000 in
theorem tX1_speed : xT[15]? = some mX1_speed := rfl
set_option maxRecDepth 20000 in
theorem tX1_toldBright : xT[16]? = some mX1_toldBright := rfl
set_option maxRecDepth 20000 in
theorem tX1_isOf : xT[17]? = some mX1_isOf := rfl
set_option maxRecDepth 20000 in
theorem tX1_movedBy : xT[18]? = some mX1_movedBy := rfl
set_option maxRecDepth 20000 in
theorem tX1_placeAt : xT[19]? = some mX1_placeAt := rfl
set_option maxRecDepth 20000 in
theorem tX1_brightAt : xT[20]? = some mX1_brightAt := rfl
set_option maxRecDepth 20000 in
theorem tX1_brightTogether : xT[21]? = some mX1_brightTogether := rfl
set_option maxRecDepth 20000 in
theorem tX1_movesWithin : xT[22]? = some mX1_movesWithin := rfl
set_option maxRecDepth 20000 in
theorem tX1_returnsAfter : xT[23]? = some mX1_returnsAfter := rfl
set_option maxRecDepth 20000 in
theorem tX2_init : xT[24]? = some mX2_init := rfl
set_option maxRecDepth 20000 in
theorem tX2_room : xT[25]? = some mX2_room := rfl
set_option maxRecDepth 20000 in
theorem tX2_size : xT[26]? = some mX2_size := rfl
set_option maxRecDepth 20000 in
theorem tX2_isMissing : xT[27]? = some mX2_isMissing := rfl
set_option maxRecDepth 20000 in
theorem tX2_remove : xT[28]? = some mX2_remove := rfl
set_option maxRecDepth 20000 in
theorem tX2_renew : xT[29]? = some mX2_renew := rfl
set_option maxRecDepth 20000 in
theorem tX2_holds : xT[30]? = some mX2_holds := rfl
set_option maxRecDepth 20000 in
theorem tX2_holdsRun : xT[31]? = some mX2_holdsRun := rfl
set_option maxRecDepth 20000 in
theorem tX2_read : xT[32]? = some mX2_read := rfl
set_option maxRecDepth 20000 in
theorem tX2_write : xT[33]? = some mX2_write := rfl
set_option maxRecDepth 20000 in
theorem tX2_take : xT[34]? = some mX2_take := rfl
set_option maxRecDepth 20000 in
theorem tX2_sum : xT[35]? = some mX2_sum := rfl
set_option maxRecDepth 20000 in
theorem tX2_isAllWithin : xT[36]? = some mX2_isAllWithin := rfl
set_option maxRecDepth 20000 in
theorem tX2_firstLess : xT[37]? = some mX2_firstLess := rfl
set_option maxRecDepth 20000 in
theorem tX2_mixedInto : xT[38]? = some mX2_mixedInto := rfl
set_option maxRecDepth 20000 in
theorem tX3_init : xT[39]? = some mX3_init := rfl
set_option maxRecDepth 20000 in
theorem tX3_begin : xT[40]? = some mX3_begin := rfl
set_option maxRecDepth 20000 in
theorem tX3_forget : xT[41]? = some mX3_forget := rfl
set_option maxRecDepth 20000 in
theorem tX3_isForgotten : xT[42]? = some mX3_isForgotten := rfl
set_option maxRecDepth 20000 in
theorem tX3_done : xT[43]? = some mX3_done := rfl
set_option maxRecDepth 20000 in
theorem tX3_now : xT[44]? = some mX3_now := rfl
set_option maxRecDepth 20000 in
theorem tX3_first : xT[45]? = some mX3_first := rfl
set_option maxRecDepth 20000 in
theorem tX3_spent : xT[46]? = some mX3_spent := rfl
set_option maxRecDepth 20000 in
theorem tX3_hasRoom : xT[47]? = some mX3_hasRoom := rfl
set_option maxRecDepth 20000 in
theorem tX3_pass : xT[48]? = some mX3_pass := rfl
set_option maxRecDepth 20000 in
theorem tX3_turnBy : xT[49]? = some mX3_turnBy := rfl
set_option maxRecDepth 20000 in
theorem tX3_rewind : xT[50]? = some mX3_rewind := rfl
set_option maxRecDepth 20000 in
theorem tX3_become : xT[51]? = some mX3_become := rfl
set_option maxRecDepth 20000 in
theorem tX3_note : xT[52]? = some mX3_note := rfl
set_option maxRecDepth 20000 in
theorem tX4_init : xT[53]? = some mX4_init := rfl
set_option maxRecDepth 20000 in
theorem tX4_faultOf : xT[54]? = some mX4_faultOf := rfl
set_option maxRecDepth 20000 in
theorem tX4_build : xT[55]? = some mX4_build := rfl
set_option maxRecDepth 20000 in
theorem tX4_readLight : xT[56]? = some mX4_readLight := rfl
set_option maxRecDepth 20000 in
theorem tX4_skipBlanks : xT[57]? = some mX4_skipBlanks := rfl
set_option maxRecDepth 20000 in
theorem tX4_readDomeLetter : xT[58]? = some mX4_readDomeLetter := rfl
set_option maxRecDepth 20000 in
theorem tX4_kindLetter : xT[59]? = some mX4_kindLetter := rfl
set_option maxRecDepth 20000 in
theorem tX4_placeFigures : xT[60]? = some mX4_placeFigures := rfl
set_option maxRecDepth 20000 in
theorem tX4_figure : xT[61]? = some mX4_figure := rfl
set_option maxRecDepth 20000 in
theorem tX4_goOnIf : xT[62]? = some mX4_goOnIf := rfl
set_option maxRecDepth 20000 in
theorem tX5_init : xT[63]? = some mX5_init := rfl
set_option maxRecDepth 20000 in
theorem tX5_whole : xT[64]? = some mX5_whole := rfl
set_option maxRecDepth 20000 in
theorem tX5_weigh : xT[65]? = some mX5_weigh := rfl
set_option maxRecDepth 20000 in
theorem tX5_spread : xT[66]? = some mX5_spread := rfl
set_option maxRecDepth 20000 in
theorem tX5_gotAt : xT[67]? = some mX5_gotAt := rfl
set_option maxRecDepth 20000 in
theorem tX5_weightLeft : xT[68]? = some mX5_weightLeft := rfl
set_option maxRecDepth 20000 in
theorem tX6_init : xT[69]? = some mX6_init := rfl
set_option maxRecDepth 20000 in
theorem tX6_become : xT[70]? = some mX6_become := rfl
set_option maxRecDepth 20000 in
theorem tX6_broad : xT[71]? = some mX6_broad := rfl
set_option maxRecDepth 20000 in
theorem tX6_times : xT[72]? = some mX6_times := rfl
set_option maxRecDepth 20000 in
theorem tX6_gain : xT[73]? = some mX6_gain := rfl
set_option maxRecDepth 20000 in
theorem tX6_effortOf : xT[74]? = some mX6_effortOf := rfl
set_option maxRecDepth 20000 in
theorem tX6_leastWayToBest : xT[75]? = some mX6_leastWayToBest := rfl
set_option maxRecDepth 20000 in
theorem tX7_init : xT[76]? = some mX7_init := rfl
set_option maxRecDepth 20000 in
theorem tX7_fill : xT[77]? = some mX7_fill := rfl
set_option maxRecDepth 20000 in
theorem tX7_gain : xT[78]? = some mX7_gain := rfl
set_option maxRecDepth 20000 in
theorem tX8_init : xT[79]? = some mX8_init := rfl
set_option maxRecDepth 20000 in
theorem tX8_row : xT[80]? = some mX8_row := rfl
set_option maxRecDepth 20000 in
theorem tX8_lay : xT[81]? = some mX8_lay := rfl
set_option maxRecDepth 20000 in
theorem tX8_at : xT[82]? = some mX8_at := rfl
set_option maxRecDepth 20000 in
theorem tX8_tear : xT[83]? = some mX8_tear := rfl
set_option maxRecDepth 20000 in
theorem tX8_copy : xT[84]? = some mX8_copy := rfl
set_option maxRecDepth 20000 in
theorem tX8_mean : xT[85]? = some mX8_mean := rfl
set_option maxRecDepth 20000 in
theorem tX8_text : xT[86]? = some mX8_text := rfl
set_option maxRecDepth 20000 in
theorem tX8_put : xT[87]? = some mX8_put := rfl
set_option maxRecDepth 20000 in
theorem tX8_fault : xT[88]? = some mX8_fault := rfl
set_option maxRecDepth 20000 in
theorem tX8_dome : xT[89]? = some mX8_dome := rfl
set_option maxRecDepth 20000 in
theorem tX8_light : xT[90]? = some mX8_light := rfl
set_option maxRecDepth 20000 in
theorem tX8_mark : xT[91]? = some mX8_mark := rfl
set_option maxRecDepth 20000 in
theorem tX8_moment : xT[92]? = some mX8_moment := rfl
set_option maxRecDepth 20000 in
theorem tX8_turn : xT[93]? = some mX8_turn := rfl
set_option maxRecDepth 20000 in
theorem tX8_undo : xT[94]? = some mX8_undo := rfl
set_option maxRecDepth 20000 in
theorem tX8_keep : xT[95]? = some mX8_keep := rfl
set_option maxRecDepth 20000 in
theorem tX8_on : xT[96]? = some mX8_on := rfl
set_option maxRecDepth 20000 in
theorem tX8_place : xT[97]? = some mX8_place := rfl
set_option maxRecDepth 20000 in
theorem tX8_gets : xT[98]? = some mX8_gets := rfl
set_option maxRecDepth 20000 in
theorem tX8_seen : xT[99]? = some mX8_seen := rfl
set_option maxRecDepth 20000 in
theorem tX8_stays : xT[100]? = some mX8_stays := rfl
set_option maxRecDepth 20000 in
theorem tX8_ahead : xT[101]? = some mX8_ahead := rfl
set_option maxRecDepth 20000 in
theorem tX8_effort : xT[102]? = some mX8_effort := rfl
set_option maxRecDepth 20000 in
theorem tX8_follow : xT[103]? = some mX8_follow := rfl
set_option maxRecDepth 20000 in
theorem tX8_turns : xT[104]? = some mX8_turns := rfl
set_option maxRecDepth 20000 in
theorem tX8_most : xT[105]? = some mX8_most := rfl
set_option maxRecDepth 20000 in
theorem tX8_by : xT[106]? = some mX8_by := rfl
set_option maxRecDepth 20000 in
theorem tX8_order : xT[107]? = some mX8_order := rfl
set_option maxRecDepth 20000 in
theorem tX8_kinds : xT[108]? = some mX8_kinds := rfl
set_option maxRecDepth 20000 in
theorem tX8_places : xT[109]? = some mX8_places := rfl
set_option maxRecDepth 20000 in
theorem tX8_speeds : xT[110]? = some mX8_speeds := rfl
set_option maxRecDepth 20000 in
theorem tX8_fainter : xT[111]? = some mX8_fainter := rfl
set_option maxRecDepth 20000 in
theorem tX8_cloud : xT[112]? = some mX8_cloud := rfl
set_option maxRecDepth 20000 in
theorem tX8_mid : xT[113]? = some mX8_mid := rfl
set_option maxRecDepth 20000 in
theorem tX8_odds : xT[114]? = some mX8_odds := rfl
set_option maxRecDepth 20000 in
theorem tX8_lots : xT[115]? = some mX8_lots := rfl
set_option maxRecDepth 20000 in
theorem tX8_asked : xT[116]? = some mX8_asked := rfl
set_option maxRecDepth 20000 in
theorem tX8_upper : xT[117]? = some mX8_upper := rfl
set_option maxRecDepth 20000 in
theorem tX8_lower : xT[118]? = some mX8_lower := rfl
set_option maxRecDepth 20000 in
theorem tX8_count : xT[119]? = some mX8_count := rfl
set_option maxRecDepth 20000 in
theorem tX8_finding : xT[120]? = some mX8_finding := rfl
set_option maxRecDepth 20000 in
theorem tX8_findings : xT[121]? = some mX8_findings := rfl
set_option maxRecDepth 20000 in
theorem tX8_digest : xT[122]? = some mX8_digest := rfl
set_option maxRecDepth 20000 in
theorem tX8_round : xT[123]? = some mX8_round := rfl
set_option maxRecDepth 20000 in
theorem tX8_isTooFar : xT[124]? = some mX8_isTooFar := rfl
set_option maxRecDepth 20000 in
theorem tX8_isNoFollowing : xT[125]? = some mX8_isNoFollowing := rfl
set_option maxRecDepth 20000 in
theorem tX8_lineAt : xT[126]? = some mX8_lineAt := rfl
set_option maxRecDepth 20000 in
theorem tX8_lightAt : xT[127]? = some mX8_lightAt := rfl
set_option maxRecDepth 20000 in
theorem tX8_found : xT[128]? = some mX8_found := rfl
set_option maxRecDepth 20000 in
theorem tX8_renewed : xT[129]? = some mX8_renewed := rfl
set_option maxRecDepth 20000 in
theorem tX8_refuseLine : xT[130]? = some mX8_refuseLine := rfl
set_option maxRecDepth 20000 in
theorem tX8_refusePlace : xT[131]? = some mX8_refusePlace := rfl
set_option maxRecDepth 20000 in
theorem tX8_refuseTurns : xT[132]? = some mX8_refuseTurns := rfl
set_option maxRecDepth 20000 in
theorem tX8_refuseNotes : xT[133]? = some mX8_refuseNotes := rfl
set_option maxRecDepth 20000 in
theorem tX8_gainIn : xT[134]? = some mX8_gainIn := rfl
set_option maxRecDepth 20000 in
theorem tX8_timesOver : xT[135]? = some mX8_timesOver := rfl
set_option maxRecDepth 20000 in
theorem tX8_overFor : xT[136]? = some mX8_overFor := rfl
set_option maxRecDepth 20000 in
theorem tX8_guessed : xT[137]? = some mX8_guessed := rfl
set_option maxRecDepth 20000 in
theorem tX8_guessFits : xT[138]? = some mX8_guessFits := rfl
set_option maxRecDepth 20000 in
theorem tX8_passMoment : xT[139]? = some mX8_passMoment := rfl
set_option maxRecDepth 20000 in
theorem tX8_bySleep : xT[140]? = some mX8_bySleep := rfl
set_option maxRecDepth 20000 in
theorem tX8_tellChances : xT[141]? = some mX8_tellChances := rfl
set_option maxRecDepth 20000 in
theorem tX8_greatestCommon : xT[142]? = some mX8_greatestCommon := rfl
set_option maxRecDepth 20000 in
theorem tX8_factOf : xT[143]? = some mX8_factOf := rfl
set_option maxRecDepth 20000 in
theorem tX8_counted : xT[144]? = some mX8_counted := rfl
set_option maxRecDepth 20000 in
theorem tX8_lightsOf : xT[145]? = some mX8_lightsOf := rfl
set_option maxRecDepth 20000 in
theorem tX8_linesThere : xT[146]? = some mX8_linesThere := rfl
set_option maxRecDepth 20000 in
theorem tX8_keptThere : xT[147]? = some mX8_keptThere := rfl
set_option maxRecDepth 20000 in
theorem tX9_init : xT[148]? = some mX9_init := rfl
set_option maxRecDepth 20000 in
theorem tX9_in : xT[149]? = some mX9_in := rfl
set_option maxRecDepth 20000 in
theorem tX9_has : xT[150]? = some mX9_has := rfl
set_option maxRecDepth 20000 in
theorem tX9_find : xT[151]? = some mX9_find := rfl
set_option maxRecDepth 20000 in
theorem tX9_tell : xT[152]? = some mX9_tell := rfl
set_option maxRecDepth 20000 in
theorem tX9_isRow : xT[153]? = some mX9_isRow := rfl
set_option maxRecDepth 20000 in
theorem tX9_isText : xT[154]? = some mX9_isText := rfl
set_option maxRecDepth 20000 in
theorem tX9_row : xT[155]? = some mX9_row := rfl
set_option maxRecDepth 20000 in
theorem tX9_makeRow : xT[156]? = some mX9_makeRow := rfl
set_option maxRecDepth 20000 in
theorem tX9_refused : xT[157]? = some mX9_refused := rfl
set_option maxRecDepth 20000 in
theorem tX9_lay : xT[158]? = some mX9_lay := rfl
set_option maxRecDepth 20000 in
theorem tX9_at : xT[159]? = some mX9_at := rfl
set_option maxRecDepth 20000 in
theorem tX9_tear : xT[160]? = some mX9_tear := rfl
set_option maxRecDepth 20000 in
theorem tX9_isSpan : xT[161]? = some mX9_isSpan := rfl
set_option maxRecDepth 20000 in
theorem tX9_copy : xT[162]? = some mX9_copy := rfl
set_option maxRecDepth 20000 in
theorem tX9_mean : xT[163]? = some mX9_mean := rfl
set_option maxRecDepth 20000 in
theorem tX9_text : xT[164]? = some mX9_text := rfl
set_option maxRecDepth 20000 in
theorem tX9_put : xT[165]? = some mX9_put := rfl
set_option maxRecDepth 20000 in
theorem tX9_here : xT[166]? = some mX9_here := rfl
set_option maxRecDepth 20000 in
theorem tX9_skip : xT[167]? = some mX9_skip := rfl
set_option maxRecDepth 20000 in
theorem tX9_figure : xT[168]? = some mX9_figure := rfl
set_option maxRecDepth 20000 in
theorem tX9_figures : xT[169]? = some mX9_figures := rfl
set_option maxRecDepth 20000 in
theorem tX9_readsSlit : xT[170]? = some mX9_readsSlit := rfl
set_option maxRecDepth 20000 in
theorem tX9_kindOfLetter : xT[171]? = some mX9_kindOfLetter := rfl
set_option maxRecDepth 20000 in
theorem tX9_readsLight : xT[172]? = some mX9_readsLight := rfl
set_option maxRecDepth 20000 in
theorem tX9_faultOf : xT[173]? = some mX9_faultOf := rfl
set_option maxRecDepth 20000 in
theorem tX9_fault : xT[174]? = some mX9_fault := rfl
set_option maxRecDepth 20000 in
theorem tX9_dome : xT[175]? = some mX9_dome := rfl
set_option maxRecDepth 20000 in
theorem tX9_isLight : xT[176]? = some mX9_isLight := rfl
set_option maxRecDepth 20000 in
theorem tX9_ring : xT[177]? = some mX9_ring := rfl
set_option maxRecDepth 20000 in
theorem tX9_moved : xT[178]? = some mX9_moved := rfl
set_option maxRecDepth 20000 in
theorem tX9_placeAt : xT[179]? = some mX9_placeAt := rfl
set_option maxRecDepth 20000 in
theorem tX9_now : xT[180]? = some mX9_now := rfl
set_option maxRecDepth 20000 in
theorem tX9_brightOf : xT[181]? = some mX9_brightOf := rfl
set_option maxRecDepth 20000 in
theorem tX9_brightAt : xT[182]? = some mX9_brightAt := rfl
set_option maxRecDepth 20000 in
theorem tX9_times : xT[183]? = some mX9_times := rfl
set_option maxRecDepth 20000 in
theorem tX9_got : xT[184]? = some mX9_got := rfl
set_option maxRecDepth 20000 in
theorem tX9_gotNow : xT[185]? = some mX9_gotNow := rfl
set_option maxRecDepth 20000 in
theorem tX9_toldOf : xT[186]? = some mX9_toldOf := rfl
set_option maxRecDepth 20000 in
theorem tX9_light : xT[187]? = some mX9_light := rfl
set_option maxRecDepth 20000 in
theorem tX9_isOf : xT[188]? = some mX9_isOf := rfl
set_option maxRecDepth 20000 in
theorem tX9_moves : xT[189]? = some mX9_moves := rfl
set_option maxRecDepth 20000 in
theorem tX9_back : xT[190]? = some mX9_back := rfl
set_option maxRecDepth 20000 in
theorem tX9_fourBrights : xT[191]? = some mX9_fourBrights := rfl
set_option maxRecDepth 20000 in
theorem tX9_offBest : xT[192]? = some mX9_offBest := rfl
set_option maxRecDepth 20000 in
theorem tX9_mark : xT[193]? = some mX9_mark := rfl
set_option maxRecDepth 20000 in
theorem tX9_keepPast : xT[194]? = some mX9_keepPast := rfl
set_option maxRecDepth 20000 in
theorem tX9_doMoment : xT[195]? = some mX9_doMoment := rfl
set_option maxRecDepth 20000 in
theorem tX9_moment : xT[196]? = some mX9_moment := rfl
set_option maxRecDepth 20000 in
theorem tX9_effortFrom : xT[197]? = some mX9_effortFrom := rfl
set_option maxRecDepth 20000 in
theorem tX9_doTurn : xT[198]? = some mX9_doTurn := rfl
set_option maxRecDepth 20000 in
theorem tX9_turn : xT[199]? = some mX9_turn := rfl
set_option maxRecDepth 20000 in
theorem tX9_undo : xT[200]? = some mX9_undo := rfl
set_option maxRecDepth 20000 in
theorem tX9_copyDome : xT[201]? = some mX9_copyDome := rfl
set_option maxRecDepth 20000 in
theorem tX9_keep : xT[202]? = some mX9_keep := rfl
set_option maxRecDepth 20000 in
theorem tX9_on : xT[203]? = some mX9_on := rfl
set_option maxRecDepth 20000 in
theorem tX9_isAhead : xT[204]? = some mX9_isAhead := rfl
set_option maxRecDepth 20000 in
theorem tX9_place : xT[205]? = some mX9_place := rfl
set_option maxRecDepth 20000 in
theorem tX9_gets : xT[206]? = some mX9_gets := rfl
set_option maxRecDepth 20000 in
theorem tX9_seen : xT[207]? = some mX9_seen := rfl
set_option maxRecDepth 20000 in
theorem tX9_stays : xT[208]? = some mX9_stays := rfl
set_option maxRecDepth 20000 in
theorem tX9_over : xT[209]? = some mX9_over := rfl
set_option maxRecDepth 20000 in
theorem tX9_ahead : xT[210]? = some mX9_ahead := rfl
set_option maxRecDepth 20000 in
theorem tX9_effort : xT[211]? = some mX9_effort := rfl
set_option maxRecDepth 20000 in
theorem tX9_layEfforts : xT[212]? = some mX9_layEfforts := rfl
set_option maxRecDepth 20000 in
theorem tX9_costOf : xT[213]? = some mX9_costOf := rfl
set_option maxRecDepth 20000 in
theorem tX9_onBy : xT[214]? = some mX9_onBy := rfl
set_option maxRecDepth 20000 in
theorem tX9_layLeast : xT[215]? = some mX9_layLeast := rfl
set_option maxRecDepth 20000 in
theorem tX9_follow : xT[216]? = some mX9_follow := rfl
set_option maxRecDepth 20000 in
theorem tX9_turns : xT[217]? = some mX9_turns := rfl
set_option maxRecDepth 20000 in
theorem tX9_most : xT[218]? = some mX9_most := rfl
set_option maxRecDepth 20000 in
theorem tX9_areAll : xT[219]? = some mX9_areAll := rfl
set_option maxRecDepth 20000 in
theorem tX9_noTurns : xT[220]? = some mX9_noTurns := rfl
set_option maxRecDepth 20000 in
theorem tX9_by : xT[221]? = some mX9_by := rfl
set_option maxRecDepth 20000 in
theorem tX9_nextOrder : xT[222]? = some mX9_nextOrder := rfl
set_option maxRecDepth 20000 in
theorem tX9_orderEffort : xT[223]? = some mX9_orderEffort := rfl
set_option maxRecDepth 20000 in
theorem tX9_order : xT[224]? = some mX9_order := rfl
set_option maxRecDepth 20000 in
theorem tX9_noNotes : xT[225]? = some mX9_noNotes := rfl
set_option maxRecDepth 20000 in
theorem tX9_isSo : xT[226]? = some mX9_isSo := rfl
set_option maxRecDepth 20000 in
theorem tX9_kinds : xT[227]? = some mX9_kinds := rfl
set_option maxRecDepth 20000 in
theorem tX9_places : xT[228]? = some mX9_places := rfl
set_option maxRecDepth 20000 in
theorem tX9_speeds : xT[229]? = some mX9_speeds := rfl
set_option maxRecDepth 20000 in
theorem tX9_fainter : xT[230]? = some mX9_fainter := rfl
set_option maxRecDepth 20000 in
theorem tX9_worseOf : xT[231]? = some mX9_worseOf := rfl
set_option maxRecDepth 20000 in
theorem tX9_cloud : xT[232]? = some mX9_cloud := rfl
set_option maxRecDepth 20000 in
theorem tX9_tellParts : xT[233]? = some mX9_tellParts := rfl
set_option maxRecDepth 20000 in
theorem tX9_layAsleep : xT[234]? = some mX9_layAsleep := rfl
set_option maxRecDepth 20000 in
theorem tX9_waysOf : xT[235]? = some mX9_waysOf := rfl
set_option maxRecDepth 20000 in
theorem tX9_tellAsleep : xT[236]? = some mX9_tellAsleep := rfl
set_option maxRecDepth 20000 in
theorem tX9_mid : xT[237]? = some mX9_mid := rfl
set_option maxRecDepth 20000 in
theorem tX9_odds : xT[238]? = some mX9_odds := rfl
set_option maxRecDepth 20000 in
theorem tX9_lots : xT[239]? = some mX9_lots := rfl
set_option maxRecDepth 20000 in
theorem tX9_asked : xT[240]? = some mX9_asked := rfl
set_option maxRecDepth 20000 in
theorem tX9_upper : xT[241]? = some mX9_upper := rfl
set_option maxRecDepth 20000 in
theorem tX9_lower : xT[242]? = some mX9_lower := rfl
set_option maxRecDepth 20000 in
theorem tX9_kindMany : xT[243]? = some mX9_kindMany := rfl
set_option maxRecDepth 20000 in
theorem tX9_thereOf : xT[244]? = some mX9_thereOf := rfl
set_option maxRecDepth 20000 in
theorem tX9_countOf : xT[245]? = some mX9_countOf := rfl
set_option maxRecDepth 20000 in
theorem tX9_count : xT[246]? = some mX9_count := rfl
set_option maxRecDepth 20000 in
theorem tX9_finding : xT[247]? = some mX9_finding := rfl
set_option maxRecDepth 20000 in
theorem tX9_findings : xT[248]? = some mX9_findings := rfl
set_option maxRecDepth 20000 in
theorem tX9_digest : xT[249]? = some mX9_digest := rfl
set_option maxRecDepth 20000 in
theorem tJ6_bitCount_0f7a4 : xT[250]? = some mJ6_bitCount_0f7a4 := rfl
set_option maxRecDepth 20000 in
theorem tJ9_floorMod_7cf53 : xT[251]? = some mJ9_floorMod_7cf53 := rfl
set_option maxRecDepth 20000 in
theorem tJ9_abs_0f7a4 : xT[252]? = some mJ9_abs_0f7a4 := rfl
set_option maxRecDepth 20000 in
theorem tJ9_max_7cf53 : xT[253]? = some mJ9_max_7cf53 := rfl
set_option maxRecDepth 20000 in
theorem tJ9_min_7cf53 : xT[254]? = some mJ9_min_7cf53 := rfl
set_option maxRecDepth 20000 in
theorem tJ7_rangeCheck_23922 : xT[255]? = some mJ7_rangeCheck_23922 := rfl
set_option maxRecDepth 20000 in
theorem tJ7_fill_d0a16 : xT[256]? = some mJ7_fill_d0a16 := rfl
set_option maxRecDepth 20000 in
theorem tJ7_fill_53178 : xT[257]? = some mJ7_fill_53178 := rfl
set_option maxRecDepth 20000 in
theorem tJ7_fill_fda19 : xT[258]? = some mJ7_fill_fda19 := rfl
end
section
/-! what is to be checked of a method's table, by program -/
def lw_gd : List Jvm.Cond := lw_tbl.filter goodWord
def x_lk (pos : Nat) (w : Jvm.Cond) : Bool := match lw_tbl[pos]? with
  | some w' => decide (w' = w) && goodWord w
  | none => false
theorem x_lk_in {pos : Nat} {w : Jvm.Cond} (h : x_lk pos w = true) : w ∈ lw_gd := by
  unfold x_lk at h
  split at h
  · rename_i w' hw
    simp only [Bool.and_eq_true, decide_eq_true_eq] at h
    obtain ⟨rfl, h2⟩ := h
    exact List.mem_filter.mpr ⟨List.mem_of_getElem? hw, h2⟩
  · cases h
def x_isN (w : Jvm.Cond) : Bool := match w with
  | .methodLinkNest _ _ _ _ => true
  | _ => false
def lw_nest : List Jvm.Cond := lw_tbl.filter x_isN
def x_lkN (pos : Nat) (w : Jvm.Cond) : Bool := match lw_tbl[pos]? with
  | some w' => decide (w' = w) && x_isN w
  | none => false
theorem x_lkN_in {pos : Nat} {w : Jvm.Cond} (h : x_lkN pos w = true) : w ∈ lw_nest := by
  unfold x_lkN at h
  split at h
  · rename_i w' hw
    simp only [Bool.and_eq_true, decide_eq_true_eq] at h
    obtain ⟨rfl, h2⟩ := h
    exact List.mem_filter.mpr ⟨List.mem_of_getElem? hw, h2⟩
  · cases h
def x_len (i : Instr) : Nat := match i with
  | .bipush _ => 2
  | .ldc _ => 2
  | .iload _ => 2
  | .lload _ => 2
  | .aload _ => 2
  | .istore _ => 2
  | .lstore _ => 2
  | .astore _ => 2
  | .newarray _ => 2
  | .sipush _ => 3
  | .ldc_w _ => 3
  | .ldc2_w _ => 3
  | .iinc _ _ => 3
  | .ifCond _ _ => 3
  | .if_icmp _ _ => 3
  | .goto _ => 3
  | .ifnull _ => 3
  | .ifnonnull _ => 3
  | .anewarray _ => 3
  | .new _ => 3
  | .getfield _ => 3
  | .putfield _ => 3
  | .getstatic _ => 3
  | .invokestatic _ => 3
  | .invokespecial _ => 3
  | .invokevirtual _ => 3
  | _ => 1
def x_npar (y : MethodName) (n : Nat) : Bool := decide ((parseMethodDescriptor y.desc).map (fun d => d.parameters.length) = some n)
def x_okF (own : String) (idx ci k pos : Nat) (put : Bool) : Bool := match vwCl[ci]? with
  | some q => decide (k < q.2.2) && (x_lk pos (.fieldLink own idx (q.2.1 k).1 (q.2.1 k).2.1 (q.2.1 k).2.2.1) && (!put || (!(q.2.1 k).2.2.2 || decide ((q.2.1 k).1 = own))))
  | none => false
def x_okX (M : XM) (pc : Nat) (e : XE) : Bool := match e with
  | (ins, n, a, b, ci, pos) => match ins with
    | .ldc idx => x_lk pos (.constant M.1.cls idx (Int32.ofNat a))
    | .ldc_w idx => x_lk pos (.constant M.1.cls idx (Int32.ofNat a))
    | .ldc2_w idx => x_lk pos (.constantLong M.1.cls idx (Int64.ofNat a))
    | .ifCond _ off => decide ((pc : Int) + off = (a : Int))
    | .if_icmp _ off => decide ((pc : Int) + off = (a : Int))
    | .goto off => decide ((pc : Int) + off = (a : Int))
    | .ifnull off => decide ((pc : Int) + off = (a : Int))
    | .ifnonnull off => decide ((pc : Int) + off = (a : Int))
    | .getfield idx => x_okF M.1.cls idx ci b pos false
    | .putfield idx => x_okF M.1.cls idx ci b pos true
    | .getstatic idx => x_lk pos (.fieldLink M.1.cls idx RX4 "LETTERS" "[I")
    | .new idx => match vwCl[ci]? with
      | some q => x_lk pos (.classLink M.1.cls idx q.1)
      | none => false
    | .anewarray idx => match x_acl a with
      | some c => match vwCl[c]? with
        | some q => x_lk pos (.classLink M.1.cls idx q.1)
        | none => false
      | none => false
    | .invokestatic idx => if a = 9999 then x_lk pos (.methodLink M.1.cls idx arraycopyName) else match xT[a]?, xP[a]? with
      | some M', some p => (x_lk pos (.methodLink M.1.cls idx M'.1) || x_lkN pos (.methodLinkNest M.1.cls idx M'.1 "DomeSlit")) && (x_lk p.2.1 (.static M'.1) && x_npar M'.1 b)
      | _, _ => false
    | .invokespecial idx => if a = 9998 then x_lk pos (.methodLink M.1.cls idx objectInit) else match xT[a]?, xP[a]? with
      | some M', some p => (x_lk pos (.methodLink M.1.cls idx M'.1) || x_lkN pos (.methodLinkNest M.1.cls idx M'.1 "DomeSlit")) && (x_lk p.2.1 (.instanceMethod M'.1) && (x_npar M'.1 b && (decide (M'.1.name = "<init>") && decide (M'.2.2.2.1 = none))))
      | _, _ => false
    | .invokevirtual idx => match xT[a]?, xP[a]?, vwCl[ci]? with
      | some M', some p, some q => x_lk pos (.methodLink M.1.cls idx M'.1) && (x_lk p.2.1 (.instanceMethod M'.1) && (x_lk p.2.2.1 (.selects q.1 M'.1 M'.1) && (x_npar M'.1 b && decide (M'.1.cls = q.1))))
      | _, _, _ => false
    | _ => true
def x_okE (M : XM) (pc : Nat) (e : XE) : Bool := decide (e.1 = .nop) || ((match e.1 with
  | .tableswitch _ _ _ _ => decide (decode M.2.1 pc = .ok (e.1, e.2.1 - pc))
  | _ => decide (e.2.1 = pc + x_len e.1) && decide (decode M.2.1 pc = .ok (e.1, x_len e.1))) && x_okX M pc e)
def x_okL (M : XM) : Nat → List XE → Bool
  | _, [] => true
  | pc, e :: l => x_okE M pc e && x_okL M (pc + 1) l
theorem x_okL_at {M : XM} : ∀ (l : List XE) (k pc : Nat) (e : XE), x_okL M k l = true → l[pc]? = some e → x_okE M (k + pc) e = true
  | [], _, _, _, _, h => by simp at h
  | e0 :: l, k, pc, e, ho, h => by
    simp only [x_okL, Bool.and_eq_true] at ho
    cases pc with
    | zero =>
      rw [List.getElem?_cons_zero] at h
      cases h
      exact ho.1
    | succ pc =>
      rw [List.getElem?_cons_succ] at h
      have := x_okL_at l (k + 1) pc e ho.2 h
      rw [show k + (pc + 1) = k + 1 + pc by omega]
      exact this
/-- a method's own words -/
def x_okM (μ : Nat) (M : XM) : Bool := match xP[μ]? with
  | some p => x_lk p.1 (.code M.1 M.2.1 M.2.2.1 M.2.2.2.1) && (x_lk p.2.2.2 (.initialized M.1.cls) && (decide (M.1.cls ≠ "java/lang/invoke/MethodHandle") && (decide (M.1.cls ≠ "java/lang/invoke/VarHandle") && (plainFor M.1 && decide (M.2.2.1 ≤ 13)))))
  | none => false
end
section
set_option maxRecDepth 100000 in
theorem oX0_init : x_okL mX0_init 0 mX0_init.2.2.2.2 = true := by decide +kernel
set_option maxRecDepth 100000 in
theorem wX0_init : x_okM 0 mX0_init = true := by decide +kernel
set_option maxRecDepth 100000 in
theorem oX0_least : x_okL mX0_least 0 mX0_least.2.2.2.2 = true := by decide +kernel
set_option maxRecDepth 100000 in
theorem wX0_least : x_okM 1 mX0_least = true := by decide +kernel
set_option maxRecDepth 100000 in
theorem oX0_writeTurns : x_okL mX0_writeTurns 0 mX0_writeTurns.2.2.2.2 = true := by decide +kernel
set_option maxRecDepth 100000 in
theorem wX0_writeTurns : x_okM 2 mX0_writeTurns = true := by decide +kernel
set_option maxRecDepth 100000 in
theorem oX0_leastBehind : x_okL mX0_leastBehind 0 mX0_leastBehind.2.2.2.2 = true := by decide +kernel
set_option maxRecDepth 100000 in
theorem wX0_leastBehind : x_okM 3 mX0_leastBehind = true := by decide +kernel
set_option maxRecDepth 100000 in
theorem oX0_mostWithin : x_okL mX0_mostWithin 0 mX0_mostWithin.2.2.2.2 = true := by decide +kernel
set_option maxRecDepth 100000 in
theorem wX0_mostWithin : x_okM 4 mX0_mostWithin = true := by decide +kernel
set_option maxRecDepth 100000 in
theorem oX0_raiseMost : x_okL mX0_raiseMost 0 mX0_raiseMost.2.2.2.2 = true := by decide +kernel
set_option maxRecDepth 100000 in
theorem wX0_raiseMost : x_okM 5 mX0_raiseMost = true := by decide +kernel
set_option maxRecDepth 100000 in
theorem oX0_mostByCloud : x_okL mX0_mostByCloud 0 mX0_mostByCloud.2.2.2.2 = true := by decide +kernel
set_option maxRecDepth 100000 in
theorem wX0_mostByCloud : x_okM 6 mX0_mostByCloud = true := by decide +kernel
set_option maxRecDepth 100000 in
theorem oX0_mostBehindClouds : x_okL mX0_mostBehindClouds 0 mX0_mostBehindClouds.2.2.2.2 = true := by decide +kernel
set_option maxRecDepth 100000 in
theorem wX0_mostBehindClouds : x_okM 7 mX0_mostBehindClouds = true := by decide +kernel
set_option maxRecDepth 100000 in
theorem oX0_leastOrder : x_okL mX0_leastOrder 0 mX0_leastOrder.2.2.2.2 = true := by decide +kernel
set_option maxRecDepth 100000 in
theorem wX0_leastOrder : x_okM 8 mX0_leastOrder = true := by decide +kernel
set_option maxRecDepth 100000 in
theorem oX0_lowerOrders : x_okL mX0_lowerOrders 0 mX0_lowerOrders.2.2.2.2 = true := by decide +kernel
set_option maxRecDepth 100000 in
theorem wX0_lowerOrders : x_okM 9 mX0_lowerOrders = true := by decide +kernel
set_option maxRecDepth 100000 in
theorem oX0_swapTables : x_okL mX0_swapTables 0 mX0_swapTables.2.2.2.2 = true := by decide +kernel
set_option maxRecDepth 100000 in
theorem wX0_swapTables : x_okM 10 mX0_swapTables = true := by decide +kernel
set_option maxRecDepth 100000 in
theorem oX1_init : x_okL mX1_init 0 mX1_init.2.2.2.2 = true := by decide +kernel
set_option maxRecDepth 100000 in
theorem wX1_init : x_okM 11 mX1_init = true := by decide +kernel
set_option maxRecDepth 100000 in
theorem oX1_become : x_okL mX1_become 0 mX1_become.2.2.2.2 = true := by decide +kernel
set_option maxRecDepth 100000 in
theorem wX1_become : x_okM 12 mX1_become = true := by decide +kernel
set_option maxRecDepth 100000 in
theorem oX1_standAt : x_okL mX1_standAt 0 mX1_standAt.2.2.2.2 = true := by decide +kernel
set_option maxRecDepth 100000 in
theorem wX1_standAt : x_okM 13 mX1_standAt = true := by decide +kernel
set_option maxRecDepth 100000 in
theorem oX1_kind : x_okL mX1_kind 0 mX1_kind.2.2.2.2 = true := by decide +kernel
set_option maxRecDepth 100000 in
theorem wX1_kind : x_okM 14 mX1_kind = true := by decide +kernel
set_option maxRecDepth 100000 in
theorem oX1_speed : x_okL mX1_speed 0 mX1_speed.2.2.2.2 = true := by decide +kernel
set_option maxRecDepth 100000 in
theorem wX1_speed : x_okM 15 mX1_speed = true := by decide +kernel
set_option maxRecDepth 100000 in
theorem oX1_toldBright : x_okL mX1_toldBright 0 mX1_toldBright.2.2.2.2 = true := by decide +kernel
set_option maxRecDepth 100000 in
theorem wX1_toldBright : x_okM 16 mX1_toldBright = true := by decide +kernel
set_option maxRecDepth 100000 in
theorem oX1_isOf : x_okL mX1_isOf 0 mX1_isOf.2.2.2.2 = true := by decide +kernel
set_option maxRecDepth 100000 in
theorem wX1_isOf : x_okM 17 mX1_isOf = true := by decide +kernel
set_option maxRecDepth 100000 in
theorem oX1_movedBy : x_okL mX1_movedBy 0 mX1_movedBy.2.2.2.2 = true := by decide +kernel
set_option maxRecDepth 100000 in
theorem wX1_movedBy : x_okM 18 mX1_movedBy = true := by decide +kernel
set_option maxRecDepth 100000 in
theorem oX1_placeAt : x_okL mX1_placeAt 0 mX1_placeAt.2.2.2.2 = true := by decide +kernel
set_option maxRecDepth 100000 in
theorem wX1_placeAt : x_okM 19 mX1_placeAt = true := by decide +kernel
set_option maxRecDepth 100000 in
theorem oX1_brightAt : x_okL mX1_brightAt 0 mX1_brightAt.2.2.2.2 = true := by decide +kernel
set_option maxRecDepth 100000 in
theorem wX1_brightAt : x_okM 20 mX1_brightAt = true := by decide +kernel
set_option maxRecDepth 100000 in
theorem oX1_brightTogether : x_okL mX1_brightTogether 0 mX1_brightTogether.2.2.2.2 = true := by decide +kernel
set_option maxRecDepth 100000 in
theorem wX1_brightTogether : x_okM 21 mX1_brightTogether = true := by decide +kernel
set_option maxRecDepth 100000 in
theorem oX1_movesWithin : x_okL mX1_movesWithin 0 mX1_movesWithin.2.2.2.2 = true := by decide +kernel
set_option maxRecDepth 100000 in
theorem wX1_movesWithin : x_okM 22 mX1_movesWithin = true := by decide +kernel
set_option maxRecDepth 100000 in
theorem oX1_returnsAfter : x_okL mX1_returnsAfter 0 mX1_returnsAfter.2.2.2.2 = true := by decide +kernel
set_option maxRecDepth 100000 in
theorem wX1_returnsAfter : x_okM 23 mX1_returnsAfter = true := by decide +kernel
set_option maxRecDepth 100000 in
theorem oX2_init : x_okL mX2_init 0 mX2_init.2.2.2.2 = true := by decide +kernel
set_option maxRecDepth 100000 in
theorem wX2_init : x_okM 24 mX2_init = true := by decide +kernel
set_option maxRecDepth 100000 in
theorem oX2_room : x_okL mX2_room 0 mX2_room.2.2.2.2 = true := by decide +kernel
set_option maxRecDepth 100000 in
theorem wX2_room : x_okM 25 mX2_room = true := by decide +kernel
set_option maxRecDepth 100000 in
theorem oX2_size : x_okL mX2_size 0 mX2_size.2.2.2.2 = true := by decide +kernel
set_option maxRecDepth 100000 in
theorem wX2_size : x_okM 26 mX2_size = true := by decide +kernel
set_option maxRecDepth 100000 in
theorem oX2_isMissing : x_okL mX2_isMissing 0 mX2_isMissing.2.2.2.2 = true := by decide +kernel
set_option maxRecDepth 100000 in
theorem wX2_isMissing : x_okM 27 mX2_isMissing = true := by decide +kernel
set_option maxRecDepth 100000 in
theorem oX2_remove : x_okL mX2_remove 0 mX2_remove.2.2.2.2 = true := by decide +kernel
set_option maxRecDepth 100000 in
theorem wX2_remove : x_okM 28 mX2_remove = true := by decide +kernel
set_option maxRecDepth 100000 in
theorem oX2_renew : x_okL mX2_renew 0 mX2_renew.2.2.2.2 = true := by decide +kernel
set_option maxRecDepth 100000 in
theorem wX2_renew : x_okM 29 mX2_renew = true := by decide +kernel
set_option maxRecDepth 100000 in
theorem oX2_holds : x_okL mX2_holds 0 mX2_holds.2.2.2.2 = true := by decide +kernel
set_option maxRecDepth 100000 in
theorem wX2_holds : x_okM 30 mX2_holds = true := by decide +kernel
set_option maxRecDepth 100000 in
theorem oX2_holdsRun : x_okL mX2_holdsRun 0 mX2_holdsRun.2.2.2.2 = true := by decide +kernel
set_option maxRecDepth 100000 in
theorem wX2_holdsRun : x_okM 31 mX2_holdsRun = true := by decide +kernel
set_option maxRecDepth 100000 in
theorem oX2_read : x_okL mX2_read 0 mX2_read.2.2.2.2 = true := by decide +kernel
set_option maxRecDepth 100000 in
theorem wX2_read : x_okM 32 mX2_read = true := by decide +kernel
set_option maxRecDepth 100000 in
theorem oX2_write : x_okL mX2_write 0 mX2_write.2.2.2.2 = true := by decide +kernel
set_option maxRecDepth 100000 in
theorem wX2_write : x_okM 33 mX2_write = true := by decide +kernel
set_option maxRecDepth 100000 in
theorem oX2_take : x_okL mX2_take 0 mX2_take.2.2.2.2 = true := by decide +kernel
set_option maxRecDepth 100000 in
theorem wX2_take : x_okM 34 mX2_take = true := by decide +kernel
set_option maxRecDepth 100000 in
theorem oX2_sum : x_okL mX2_sum 0 mX2_sum.2.2.2.2 = true := by decide +kernel
set_option maxRecDepth 100000 in
theorem wX2_sum : x_okM 35 mX2_sum = true := by decide +kernel
set_option maxRecDepth 100000 in
theorem oX2_isAllWithin : x_okL mX2_isAllWithin 0 mX2_isAllWithin.2.2.2.2 = true := by decide +kernel
set_option maxRecDepth 100000 in
theorem wX2_isAllWithin : x_okM 36 mX2_isAllWithin = true := by decide +kernel
set_option maxRecDepth 100000 in
theorem oX2_firstLess : x_okL mX2_firstLess 0 mX2_firstLess.2.2.2.2 = true := by decide +kernel
set_option maxRecDepth 100000 in
theorem wX2_firstLess : x_okM 37 mX2_firstLess = true := by decide +kernel
set_option maxRecDepth 100000 in
theorem oX2_mixedInto : x_okL mX2_mixedInto 0 mX2_mixedInto.2.2.2.2 = true := by decide +kernel
set_option maxRecDepth 100000 in
theorem wX2_mixedInto : x_okM 38 mX2_mixedInto = true := by decide +kernel
set_option maxRecDepth 100000 in
theorem oX3_init : x_okL mX3_init 0 mX3_init.2.2.2.2 = true := by decide +kernel
set_option maxRecDepth 100000 in
theorem wX3_init : x_okM 39 mX3_init = true := by decide +kernel
set_option maxRecDepth 100000 in
theorem oX3_begin : x_okL mX3_begin 0 mX3_begin.2.2.2.2 = true := by decide +kernel
set_option maxRecDepth 100000 in
theorem wX3_begin : x_okM 40 mX3_begin = true := by decide +kernel
set_option maxRecDepth 100000 in
theorem oX3_forget : x_okL mX3_forget 0 mX3_forget.2.2.2.2 = true := by decide +kernel
set_option maxRecDepth 100000 in
theorem wX3_forget : x_okM 41 mX3_forget = true := by decide +kernel
set_option maxRecDepth 100000 in
theorem oX3_isForgotten : x_okL mX3_isForgotten 0 mX3_isForgotten.2.2.2.2 = true := by decide +kernel
set_option maxRecDepth 100000 in
theorem wX3_isForgotten : x_okM 42 mX3_isForgotten = true := by decide +kernel
set_option maxRecDepth 100000 in
theorem oX3_done : x_okL mX3_done 0 mX3_done.2.2.2.2 = true := by decide +kernel
set_option maxRecDepth 100000 in
theorem wX3_done : x_okM 43 mX3_done = true := by decide +kernel
set_option maxRecDepth 100000 in
theorem oX3_now : x_okL mX3_now 0 mX3_now.2.2.2.2 = true := by decide +kernel
set_option maxRecDepth 100000 in
theorem wX3_now : x_okM 44 mX3_now = true := by decide +kernel
set_option maxRecDepth 100000 in
theorem oX3_first : x_okL mX3_first 0 mX3_first.2.2.2.2 = true := by decide +kernel
set_option maxRecDepth 100000 in
theorem wX3_first : x_okM 45 mX3_first = true := by decide +kernel
set_option maxRecDepth 100000 in
theorem oX3_spent : x_okL mX3_spent 0 mX3_spent.2.2.2.2 = true := by decide +kernel
set_option maxRecDepth 100000 in
theorem wX3_spent : x_okM 46 mX3_spent = true := by decide +kernel
set_option maxRecDepth 100000 in
theorem oX3_hasRoom : x_okL mX3_hasRoom 0 mX3_hasRoom.2.2.2.2 = true := by decide +kernel
set_option maxRecDepth 100000 in
theorem wX3_hasRoom : x_okM 47 mX3_hasRoom = true := by decide +kernel
set_option maxRecDepth 100000 in
theorem oX3_pass : x_okL mX3_pass 0 mX3_pass.2.2.2.2 = true := by decide +kernel
set_option maxRecDepth 100000 in
theorem wX3_pass : x_okM 48 mX3_pass = true := by decide +kernel
set_option maxRecDepth 100000 in
theorem oX3_turnBy : x_okL mX3_turnBy 0 mX3_turnBy.2.2.2.2 = true := by decide +kernel
set_option maxRecDepth 100000 in
theorem wX3_turnBy : x_okM 49 mX3_turnBy = true := by decide +kernel
set_option maxRecDepth 100000 in
theorem oX3_rewind : x_okL mX3_rewind 0 mX3_rewind.2.2.2.2 = true := by decide +kernel
set_option maxRecDepth 100000 in
theorem wX3_rewind : x_okM 50 mX3_rewind = true := by decide +kernel
set_option maxRecDepth 100000 in
theorem oX3_become : x_okL mX3_become 0 mX3_become.2.2.2.2 = true := by decide +kernel
set_option maxRecDepth 100000 in
theorem wX3_become : x_okM 51 mX3_become = true := by decide +kernel
set_option maxRecDepth 100000 in
theorem oX3_note : x_okL mX3_note 0 mX3_note.2.2.2.2 = true := by decide +kernel
set_option maxRecDepth 100000 in
theorem wX3_note : x_okM 52 mX3_note = true := by decide +kernel
set_option maxRecDepth 100000 in
theorem oX4_init : x_okL mX4_init 0 mX4_init.2.2.2.2 = true := by decide +kernel
set_option maxRecDepth 100000 in
theorem wX4_init : x_okM 53 mX4_init = true := by decide +kernel
set_option maxRecDepth 100000 in
theorem oX4_faultOf : x_okL mX4_faultOf 0 mX4_faultOf.2.2.2.2 = true := by decide +kernel
set_option maxRecDepth 100000 in
theorem wX4_faultOf : x_okM 54 mX4_faultOf = true := by decide +kernel
set_option maxRecDepth 100000 in
theorem oX4_build : x_okL mX4_build 0 mX4_build.2.2.2.2 = true := by decide +kernel
set_option maxRecDepth 100000 in
theorem wX4_build : x_okM 55 mX4_build = true := by decide +kernel
set_option maxRecDepth 100000 in
theorem oX4_readLight : x_okL mX4_readLight 0 mX4_readLight.2.2.2.2 = true := by decide +kernel
set_option maxRecDepth 100000 in
theorem wX4_readLight : x_okM 56 mX4_readLight = true := by decide +kernel
set_option maxRecDepth 100000 in
theorem oX4_skipBlanks : x_okL mX4_skipBlanks 0 mX4_skipBlanks.2.2.2.2 = true := by decide +kernel
set_option maxRecDepth 100000 in
theorem wX4_skipBlanks : x_okM 57 mX4_skipBlanks = true := by decide +kernel
set_option maxRecDepth 100000 in
theorem oX4_readDomeLetter : x_okL mX4_readDomeLetter 0 mX4_readDomeLetter.2.2.2.2 = true := by decide +kernel
set_option maxRecDepth 100000 in
theorem wX4_readDomeLetter : x_okM 58 mX4_readDomeLetter = true := by decide +kernel
set_option maxRecDepth 100000 in
theorem oX4_kindLetter : x_okL mX4_kindLetter 0 mX4_kindLetter.2.2.2.2 = true := by decide +kernel
set_option maxRecDepth 100000 in
theorem wX4_kindLetter : x_okM 59 mX4_kindLetter = true := by decide +kernel
set_option maxRecDepth 100000 in
theorem oX4_placeFigures : x_okL mX4_placeFigures 0 mX4_placeFigures.2.2.2.2 = true := by decide +kernel
set_option maxRecDepth 100000 in
theorem wX4_placeFigures : x_okM 60 mX4_placeFigures = true := by decide +kernel
set_option maxRecDepth 100000 in
theorem oX4_figure : x_okL mX4_figure 0 mX4_figure.2.2.2.2 = true := by decide +kernel
set_option maxRecDepth 100000 in
theorem wX4_figure : x_okM 61 mX4_figure = true := by decide +kernel
set_option maxRecDepth 100000 in
theorem oX4_goOnIf : x_okL mX4_goOnIf 0 mX4_goOnIf.2.2.2.2 = true := by decide +kernel
set_option maxRecDepth 100000 in
theorem wX4_goOnIf : x_okM 62 mX4_goOnIf = true := by decide +kernel
set_option maxRecDepth 100000 in
theorem oX5_init : x_okL mX5_init 0 mX5_init.2.2.2.2 = true := by decide +kernel
set_option maxRecDepth 100000 in
theorem wX5_init : x_okM 63 mX5_init = true := by decide +kernel
set_option maxRecDepth 100000 in
theorem oX5_whole : x_okL mX5_whole 0 mX5_whole.2.2.2.2 = true := by decide +kernel
set_option maxRecDepth 100000 in
theorem wX5_whole : x_okM 64 mX5_whole = true := by decide +kernel
end
section
set_option maxRecDepth 100000 in
theorem oX5_weigh : x_okL mX5_weigh 0 mX5_weigh.2.2.2.2 = true := by decide +kernel
set_option maxRecDepth 100000 in
theorem wX5_weigh : x_okM 65 mX5_weigh = true := by decide +kernel
set_option maxRecDepth 100000 in
theorem oX5_spread : x_okL mX5_spread 0 mX5_spread.2.2.2.2 = true := by decide +kernel
set_option maxRecDepth 100000 in
theorem wX5_spread : x_okM 66 mX5_spread = true := by decide +kernel
set_option maxRecDepth 100000 in
theorem oX5_gotAt : x_okL mX5_gotAt 0 mX5_gotAt.2.2.2.2 = true := by decide +kernel
set_option maxRecDepth 100000 in
theorem wX5_gotAt : x_okM 67 mX5_gotAt = true := by decide +kernel
set_option maxRecDepth 100000 in
theorem oX5_weightLeft : x_okL mX5_weightLeft 0 mX5_weightLeft.2.2.2.2 = true := by decide +kernel
set_option maxRecDepth 100000 in
theorem wX5_weightLeft : x_okM 68 mX5_weightLeft = true := by decide +kernel
set_option maxRecDepth 100000 in
theorem oX6_init : x_okL mX6_init 0 mX6_init.2.2.2.2 = true := by decide +kernel
set_option maxRecDepth 100000 in
theorem wX6_init : x_okM 69 mX6_init = true := by decide +kernel
set_option maxRecDepth 100000 in
theorem oX6_become : x_okL mX6_become 0 mX6_become.2.2.2.2 = true := by decide +kernel
set_option maxRecDepth 100000 in
theorem wX6_become : x_okM 70 mX6_become = true := by decide +kernel
set_option maxRecDepth 100000 in
theorem oX6_broad : x_okL mX6_broad 0 mX6_broad.2.2.2.2 = true := by decide +kernel
set_option maxRecDepth 100000 in
theorem wX6_broad : x_okM 71 mX6_broad = true := by decide +kernel
set_option maxRecDepth 100000 in
theorem oX6_times : x_okL mX6_times 0 mX6_times.2.2.2.2 = true := by decide +kernel
set_option maxRecDepth 100000 in
theorem wX6_times : x_okM 72 mX6_times = true := by decide +kernel
set_option maxRecDepth 100000 in
theorem oX6_gain : x_okL mX6_gain 0 mX6_gain.2.2.2.2 = true := by decide +kernel
set_option maxRecDepth 100000 in
theorem wX6_gain : x_okM 73 mX6_gain = true := by decide +kernel
set_option maxRecDepth 100000 in
theorem oX6_effortOf : x_okL mX6_effortOf 0 mX6_effortOf.2.2.2.2 = true := by decide +kernel
set_option maxRecDepth 100000 in
theorem wX6_effortOf : x_okM 74 mX6_effortOf = true := by decide +kernel
set_option maxRecDepth 100000 in
theorem oX6_leastWayToBest : x_okL mX6_leastWayToBest 0 mX6_leastWayToBest.2.2.2.2 = true := by decide +kernel
set_option maxRecDepth 100000 in
theorem wX6_leastWayToBest : x_okM 75 mX6_leastWayToBest = true := by decide +kernel
set_option maxRecDepth 100000 in
theorem oX7_init : x_okL mX7_init 0 mX7_init.2.2.2.2 = true := by decide +kernel
set_option maxRecDepth 100000 in
theorem wX7_init : x_okM 76 mX7_init = true := by decide +kernel
set_option maxRecDepth 100000 in
theorem oX7_fill : x_okL mX7_fill 0 mX7_fill.2.2.2.2 = true := by decide +kernel
set_option maxRecDepth 100000 in
theorem wX7_fill : x_okM 77 mX7_fill = true := by decide +kernel
set_option maxRecDepth 100000 in
theorem oX7_gain : x_okL mX7_gain 0 mX7_gain.2.2.2.2 = true := by decide +kernel
set_option maxRecDepth 100000 in
theorem wX7_gain : x_okM 78 mX7_gain = true := by decide +kernel
set_option maxRecDepth 100000 in
theorem oX8_init : x_okL mX8_init 0 mX8_init.2.2.2.2 = true := by decide +kernel
set_option maxRecDepth 100000 in
theorem wX8_init : x_okM 79 mX8_init = true := by decide +kernel
set_option maxRecDepth 100000 in
theorem oX8_row : x_okL mX8_row 0 mX8_row.2.2.2.2 = true := by decide +kernel
set_option maxRecDepth 100000 in
theorem wX8_row : x_okM 80 mX8_row = true := by decide +kernel
set_option maxRecDepth 100000 in
theorem oX8_lay : x_okL mX8_lay 0 mX8_lay.2.2.2.2 = true := by decide +kernel
set_option maxRecDepth 100000 in
theorem wX8_lay : x_okM 81 mX8_lay = true := by decide +kernel
set_option maxRecDepth 100000 in
theorem oX8_at : x_okL mX8_at 0 mX8_at.2.2.2.2 = true := by decide +kernel
set_option maxRecDepth 100000 in
theorem wX8_at : x_okM 82 mX8_at = true := by decide +kernel
set_option maxRecDepth 100000 in
theorem oX8_tear : x_okL mX8_tear 0 mX8_tear.2.2.2.2 = true := by decide +kernel
set_option maxRecDepth 100000 in
theorem wX8_tear : x_okM 83 mX8_tear = true := by decide +kernel
set_option maxRecDepth 100000 in
theorem oX8_copy : x_okL mX8_copy 0 mX8_copy.2.2.2.2 = true := by decide +kernel
set_option maxRecDepth 100000 in
theorem wX8_copy : x_okM 84 mX8_copy = true := by decide +kernel
set_option maxRecDepth 100000 in
theorem oX8_mean : x_okL mX8_mean 0 mX8_mean.2.2.2.2 = true := by decide +kernel
set_option maxRecDepth 100000 in
theorem wX8_mean : x_okM 85 mX8_mean = true := by decide +kernel
set_option maxRecDepth 100000 in
theorem oX8_text : x_okL mX8_text 0 mX8_text.2.2.2.2 = true := by decide +kernel
set_option maxRecDepth 100000 in
theorem wX8_text : x_okM 86 mX8_text = true := by decide +kernel
set_option maxRecDepth 100000 in
theorem oX8_put : x_okL mX8_put 0 mX8_put.2.2.2.2 = true := by decide +kernel
set_option maxRecDepth 100000 in
theorem wX8_put : x_okM 87 mX8_put = true := by decide +kernel
set_option maxRecDepth 100000 in
theorem oX8_fault : x_okL mX8_fault 0 mX8_fault.2.2.2.2 = true := by decide +kernel
set_option maxRecDepth 100000 in
theorem wX8_fault : x_okM 88 mX8_fault = true := by decide +kernel
set_option maxRecDepth 100000 in
theorem oX8_dome : x_okL mX8_dome 0 mX8_dome.2.2.2.2 = true := by decide +kernel
set_option maxRecDepth 100000 in
theorem wX8_dome : x_okM 89 mX8_dome = true := by decide +kernel
set_option maxRecDepth 100000 in
theorem oX8_light : x_okL mX8_light 0 mX8_light.2.2.2.2 = true := by decide +kernel
set_option maxRecDepth 100000 in
theorem wX8_light : x_okM 90 mX8_light = true := by decide +kernel
set_option maxRecDepth 100000 in
theorem oX8_mark : x_okL mX8_mark 0 mX8_mark.2.2.2.2 = true := by decide +kernel
set_option maxRecDepth 100000 in
theorem wX8_mark : x_okM 91 mX8_mark = true := by decide +kernel
set_option maxRecDepth 100000 in
theorem oX8_moment : x_okL mX8_moment 0 mX8_moment.2.2.2.2 = true := by decide +kernel
set_option maxRecDepth 100000 in
theorem wX8_moment : x_okM 92 mX8_moment = true := by decide +kernel
set_option maxRecDepth 100000 in
theorem oX8_turn : x_okL mX8_turn 0 mX8_turn.2.2.2.2 = true := by decide +kernel
set_option maxRecDepth 100000 in
theorem wX8_turn : x_okM 93 mX8_turn = true := by decide +kernel
set_option maxRecDepth 100000 in
theorem oX8_undo : x_okL mX8_undo 0 mX8_undo.2.2.2.2 = true := by decide +kernel
set_option maxRecDepth 100000 in
theorem wX8_undo : x_okM 94 mX8_undo = true := by decide +kernel
set_option maxRecDepth 100000 in
theorem oX8_keep : x_okL mX8_keep 0 mX8_keep.2.2.2.2 = true := by decide +kernel
set_option maxRecDepth 100000 in
theorem wX8_keep : x_okM 95 mX8_keep = true := by decide +kernel
set_option maxRecDepth 100000 in
theorem oX8_on : x_okL mX8_on 0 mX8_on.2.2.2.2 = true := by decide +kernel
set_option maxRecDepth 100000 in
theorem wX8_on : x_okM 96 mX8_on = true := by decide +kernel
set_option maxRecDepth 100000 in
theorem oX8_place : x_okL mX8_place 0 mX8_place.2.2.2.2 = true := by decide +kernel
set_option maxRecDepth 100000 in
theorem wX8_place : x_okM 97 mX8_place = true := by decide +kernel
set_option maxRecDepth 100000 in
theorem oX8_gets : x_okL mX8_gets 0 mX8_gets.2.2.2.2 = true := by decide +kernel
set_option maxRecDepth 100000 in
theorem wX8_gets : x_okM 98 mX8_gets = true := by decide +kernel
set_option maxRecDepth 100000 in
theorem oX8_seen : x_okL mX8_seen 0 mX8_seen.2.2.2.2 = true := by decide +kernel
set_option maxRecDepth 100000 in
theorem wX8_seen : x_okM 99 mX8_seen = true := by decide +kernel
set_option maxRecDepth 100000 in
theorem oX8_stays : x_okL mX8_stays 0 mX8_stays.2.2.2.2 = true := by decide +kernel
set_option maxRecDepth 100000 in
theorem wX8_stays : x_okM 100 mX8_stays = true := by decide +kernel
set_option maxRecDepth 100000 in
theorem oX8_ahead : x_okL mX8_ahead 0 mX8_ahead.2.2.2.2 = true := by decide +kernel
set_option maxRecDepth 100000 in
theorem wX8_ahead : x_okM 101 mX8_ahead = true := by decide +kernel
set_option maxRecDepth 100000 in
theorem oX8_effort : x_okL mX8_effort 0 mX8_effort.2.2.2.2 = true := by decide +kernel
set_option maxRecDepth 100000 in
theorem wX8_effort : x_okM 102 mX8_effort = true := by decide +kernel
set_option maxRecDepth 100000 in
theorem oX8_follow : x_okL mX8_follow 0 mX8_follow.2.2.2.2 = true := by decide +kernel
set_option maxRecDepth 100000 in
theorem wX8_follow : x_okM 103 mX8_follow = true := by decide +kernel
set_option maxRecDepth 100000 in
theorem oX8_turns : x_okL mX8_turns 0 mX8_turns.2.2.2.2 = true := by decide +kernel
set_option maxRecDepth 100000 in
theorem wX8_turns : x_okM 104 mX8_turns = true := by decide +kernel
set_option maxRecDepth 100000 in
theorem oX8_most : x_okL mX8_most 0 mX8_most.2.2.2.2 = true := by decide +kernel
set_option maxRecDepth 100000 in
theorem wX8_most : x_okM 105 mX8_most = true := by decide +kernel
set_option maxRecDepth 100000 in
theorem oX8_by : x_okL mX8_by 0 mX8_by.2.2.2.2 = true := by decide +kernel
set_option maxRecDepth 100000 in
theorem wX8_by : x_okM 106 mX8_by = true := by decide +kernel
set_option maxRecDepth 100000 in
theorem oX8_order : x_okL mX8_order 0 mX8_order.2.2.2.2 = true := by decide +kernel
set_option maxRecDepth 100000 in
theorem wX8_order : x_okM 107 mX8_order = true := by decide +kernel
set_option maxRecDepth 100000 in
theorem oX8_kinds : x_okL mX8_kinds 0 mX8_kinds.2.2.2.2 = true := by decide +kernel
set_option maxRecDepth 100000 in
theorem wX8_kinds : x_okM 108 mX8_kinds = true := by decide +kernel
set_option maxRecDepth 100000 in
theorem oX8_places : x_okL mX8_places 0 mX8_places.2.2.2.2 = true := by decide +kernel
set_option maxRecDepth 100000 in
theorem wX8_places : x_okM 109 mX8_places = true := by decide +kernel
set_option maxRecDepth 100000 in
theorem oX8_speeds : x_okL mX8_speeds 0 mX8_speeds.2.2.2.2 = true := by decide +kernel
set_option maxRecDepth 100000 in
theorem wX8_speeds : x_okM 110 mX8_speeds = true := by decide +kernel
set_option maxRecDepth 100000 in
theorem oX8_fainter : x_okL mX8_fainter 0 mX8_fainter.2.2.2.2 = true := by decide +kernel
set_option maxRecDepth 100000 in
theorem wX8_fainter : x_okM 111 mX8_fainter = true := by decide +kernel
set_option maxRecDepth 100000 in
theorem oX8_cloud : x_okL mX8_cloud 0 mX8_cloud.2.2.2.2 = true := by decide +kernel
set_option maxRecDepth 100000 in
theorem wX8_cloud : x_okM 112 mX8_cloud = true := by decide +kernel
set_option maxRecDepth 100000 in
theorem oX8_mid : x_okL mX8_mid 0 mX8_mid.2.2.2.2 = true := by decide +kernel
set_option maxRecDepth 100000 in
theorem wX8_mid : x_okM 113 mX8_mid = true := by decide +kernel
set_option maxRecDepth 100000 in
theorem oX8_odds : x_okL mX8_odds 0 mX8_odds.2.2.2.2 = true := by decide +kernel
set_option maxRecDepth 100000 in
theorem wX8_odds : x_okM 114 mX8_odds = true := by decide +kernel
set_option maxRecDepth 100000 in
theorem oX8_lots : x_okL mX8_lots 0 mX8_lots.2.2.2.2 = true := by decide +kernel
set_option maxRecDepth 100000 in
theorem wX8_lots : x_okM 115 mX8_lots = true := by decide +kernel
set_option maxRecDepth 100000 in
theorem oX8_asked : x_okL mX8_asked 0 mX8_asked.2.2.2.2 = true := by decide +kernel
set_option maxRecDepth 100000 in
theorem wX8_asked : x_okM 116 mX8_asked = true := by decide +kernel
set_option maxRecDepth 100000 in
theorem oX8_upper : x_okL mX8_upper 0 mX8_upper.2.2.2.2 = true := by decide +kernel
set_option maxRecDepth 100000 in
theorem wX8_upper : x_okM 117 mX8_upper = true := by decide +kernel
set_option maxRecDepth 100000 in
theorem oX8_lower : x_okL mX8_lower 0 mX8_lower.2.2.2.2 = true := by decide +kernel
set_option maxRecDepth 100000 in
theorem wX8_lower : x_okM 118 mX8_lower = true := by decide +kernel
set_option maxRecDepth 100000 in
theorem oX8_count : x_okL mX8_count 0 mX8_count.2.2.2.2 = true := by decide +kernel
set_option maxRecDepth 100000 in
theorem wX8_count : x_okM 119 mX8_count = true := by decide +kernel
set_option maxRecDepth 100000 in
theorem oX8_finding : x_okL mX8_finding 0 mX8_finding.2.2.2.2 = true := by decide +kernel
set_option maxRecDepth 100000 in
theorem wX8_finding : x_okM 120 mX8_finding = true := by decide +kernel
set_option maxRecDepth 100000 in
theorem oX8_findings : x_okL mX8_findings 0 mX8_findings.2.2.2.2 = true := by decide +kernel
set_option maxRecDepth 100000 in
theorem wX8_findings : x_okM 121 mX8_findings = true := by decide +kernel
set_option maxRecDepth 100000 in
theorem oX8_digest : x_okL mX8_digest 0 mX8_digest.2.2.2.2 = true := by decide +kernel
set_option maxRecDepth 100000 in
theorem wX8_digest : x_okM 122 mX8_digest = true := by decide +kernel
set_option maxRecDepth 100000 in
theorem oX8_round : x_okL mX8_round 0 mX8_round.2.2.2.2 = true := by decide +kernel
set_option maxRecDepth 100000 in
theorem wX8_round : x_okM 123 mX8_round = true := by decide +kernel
set_option maxRecDepth 100000 in
theorem oX8_isTooFar : x_okL mX8_isTooFar 0 mX8_isTooFar.2.2.2.2 = true := by decide +kernel
set_option maxRecDepth 100000 in
theorem wX8_isTooFar : x_okM 124 mX8_isTooFar = true := by decide +kernel
set_option maxRecDepth 100000 in
theorem oX8_isNoFollowing : x_okL mX8_isNoFollowing 0 mX8_isNoFollowing.2.2.2.2 = true := by decide +kernel
set_option maxRecDepth 100000 in
theorem wX8_isNoFollowing : x_okM 125 mX8_isNoFollowing = true := by decide +kernel
set_option maxRecDepth 100000 in
theorem oX8_lineAt : x_okL mX8_lineAt 0 mX8_lineAt.2.2.2.2 = true := by decide +kernel
set_option maxRecDepth 100000 in
theorem wX8_lineAt : x_okM 126 mX8_lineAt = true := by decide +kernel
set_option maxRecDepth 100000 in
theorem oX8_lightAt : x_okL mX8_lightAt 0 mX8_lightAt.2.2.2.2 = true := by decide +kernel
set_option maxRecDepth 100000 in
theorem wX8_lightAt : x_okM 127 mX8_lightAt = true := by decide +kernel
set_option maxRecDepth 100000 in
theorem oX8_found : x_okL mX8_found 0 mX8_found.2.2.2.2 = true := by decide +kernel
set_option maxRecDepth 100000 in
theorem wX8_found : x_okM 128 mX8_found = true := by decide +kernel
set_option maxRecDepth 100000 in
theorem oX8_renewed : x_okL mX8_renewed 0 mX8_renewed.2.2.2.2 = true := by decide +kernel
set_option maxRecDepth 100000 in
theorem wX8_renewed : x_okM 129 mX8_renewed = true := by decide +kernel
end
section
set_option maxRecDepth 100000 in
theorem oX8_refuseLine : x_okL mX8_refuseLine 0 mX8_refuseLine.2.2.2.2 = true := by decide +kernel
set_option maxRecDepth 100000 in
theorem wX8_refuseLine : x_okM 130 mX8_refuseLine = true := by decide +kernel
set_option maxRecDepth 100000 in
theorem oX8_refusePlace : x_okL mX8_refusePlace 0 mX8_refusePlace.2.2.2.2 = true := by decide +kernel
set_option maxRecDepth 100000 in
theorem wX8_refusePlace : x_okM 131 mX8_refusePlace = true := by decide +kernel
set_option maxRecDepth 100000 in
theorem oX8_refuseTurns : x_okL mX8_refuseTurns 0 mX8_refuseTurns.2.2.2.2 = true := by decide +kernel
set_option maxRecDepth 100000 in
theorem wX8_refuseTurns : x_okM 132 mX8_refuseTurns = true := by decide +kernel
set_option maxRecDepth 100000 in
theorem oX8_refuseNotes : x_okL mX8_refuseNotes 0 mX8_refuseNotes.2.2.2.2 = true := by decide +kernel
set_option maxRecDepth 100000 in
theorem wX8_refuseNotes : x_okM 133 mX8_refuseNotes = true := by decide +kernel
set_option maxRecDepth 100000 in
theorem oX8_gainIn : x_okL mX8_gainIn 0 mX8_gainIn.2.2.2.2 = true := by decide +kernel
set_option maxRecDepth 100000 in
theorem wX8_gainIn : x_okM 134 mX8_gainIn = true := by decide +kernel
set_option maxRecDepth 100000 in
theorem oX8_timesOver : x_okL mX8_timesOver 0 mX8_timesOver.2.2.2.2 = true := by decide +kernel
set_option maxRecDepth 100000 in
theorem wX8_timesOver : x_okM 135 mX8_timesOver = true := by decide +kernel
set_option maxRecDepth 100000 in
theorem oX8_overFor : x_okL mX8_overFor 0 mX8_overFor.2.2.2.2 = true := by decide +kernel
set_option maxRecDepth 100000 in
theorem wX8_overFor : x_okM 136 mX8_overFor = true := by decide +kernel
set_option maxRecDepth 100000 in
theorem oX8_guessed : x_okL mX8_guessed 0 mX8_guessed.2.2.2.2 = true := by decide +kernel
set_option maxRecDepth 100000 in
theorem wX8_guessed : x_okM 137 mX8_guessed = true := by decide +kernel
set_option maxRecDepth 100000 in
theorem oX8_guessFits : x_okL mX8_guessFits 0 mX8_guessFits.2.2.2.2 = true := by decide +kernel
set_option maxRecDepth 100000 in
theorem wX8_guessFits : x_okM 138 mX8_guessFits = true := by decide +kernel
set_option maxRecDepth 100000 in
theorem oX8_passMoment : x_okL mX8_passMoment 0 mX8_passMoment.2.2.2.2 = true := by decide +kernel
set_option maxRecDepth 100000 in
theorem wX8_passMoment : x_okM 139 mX8_passMoment = true := by decide +kernel
set_option maxRecDepth 100000 in
theorem oX8_bySleep : x_okL mX8_bySleep 0 mX8_bySleep.2.2.2.2 = true := by decide +kernel
set_option maxRecDepth 100000 in
theorem wX8_bySleep : x_okM 140 mX8_bySleep = true := by decide +kernel
set_option maxRecDepth 100000 in
theorem oX8_tellChances : x_okL mX8_tellChances 0 mX8_tellChances.2.2.2.2 = true := by decide +kernel
set_option maxRecDepth 100000 in
theorem wX8_tellChances : x_okM 141 mX8_tellChances = true := by decide +kernel
set_option maxRecDepth 100000 in
theorem oX8_greatestCommon : x_okL mX8_greatestCommon 0 mX8_greatestCommon.2.2.2.2 = true := by decide +kernel
set_option maxRecDepth 100000 in
theorem wX8_greatestCommon : x_okM 142 mX8_greatestCommon = true := by decide +kernel
set_option maxRecDepth 100000 in
theorem oX8_factOf : x_okL mX8_factOf 0 mX8_factOf.2.2.2.2 = true := by decide +kernel
set_option maxRecDepth 100000 in
theorem wX8_factOf : x_okM 143 mX8_factOf = true := by decide +kernel
set_option maxRecDepth 100000 in
theorem oX8_counted : x_okL mX8_counted 0 mX8_counted.2.2.2.2 = true := by decide +kernel
set_option maxRecDepth 100000 in
theorem wX8_counted : x_okM 144 mX8_counted = true := by decide +kernel
set_option maxRecDepth 100000 in
theorem oX8_lightsOf : x_okL mX8_lightsOf 0 mX8_lightsOf.2.2.2.2 = true := by decide +kernel
set_option maxRecDepth 100000 in
theorem wX8_lightsOf : x_okM 145 mX8_lightsOf = true := by decide +kernel
set_option maxRecDepth 100000 in
theorem oX8_linesThere : x_okL mX8_linesThere 0 mX8_linesThere.2.2.2.2 = true := by decide +kernel
set_option maxRecDepth 100000 in
theorem wX8_linesThere : x_okM 146 mX8_linesThere = true := by decide +kernel
set_option maxRecDepth 100000 in
theorem oX8_keptThere : x_okL mX8_keptThere 0 mX8_keptThere.2.2.2.2 = true := by decide +kernel
set_option maxRecDepth 100000 in
theorem wX8_keptThere : x_okM 147 mX8_keptThere = true := by decide +kernel
set_option maxRecDepth 100000 in
theorem oX9_init : x_okL mX9_init 0 mX9_init.2.2.2.2 = true := by decide +kernel
set_option maxRecDepth 100000 in
theorem wX9_init : x_okM 148 mX9_init = true := by decide +kernel
set_option maxRecDepth 100000 in
theorem oX9_in : x_okL mX9_in 0 mX9_in.2.2.2.2 = true := by decide +kernel
set_option maxRecDepth 100000 in
theorem wX9_in : x_okM 149 mX9_in = true := by decide +kernel
set_option maxRecDepth 100000 in
theorem oX9_has : x_okL mX9_has 0 mX9_has.2.2.2.2 = true := by decide +kernel
set_option maxRecDepth 100000 in
theorem wX9_has : x_okM 150 mX9_has = true := by decide +kernel
set_option maxRecDepth 100000 in
theorem oX9_find : x_okL mX9_find 0 mX9_find.2.2.2.2 = true := by decide +kernel
set_option maxRecDepth 100000 in
theorem wX9_find : x_okM 151 mX9_find = true := by decide +kernel
set_option maxRecDepth 100000 in
theorem oX9_tell : x_okL mX9_tell 0 mX9_tell.2.2.2.2 = true := by decide +kernel
set_option maxRecDepth 100000 in
theorem wX9_tell : x_okM 152 mX9_tell = true := by decide +kernel
set_option maxRecDepth 100000 in
theorem oX9_isRow : x_okL mX9_isRow 0 mX9_isRow.2.2.2.2 = true := by decide +kernel
set_option maxRecDepth 100000 in
theorem wX9_isRow : x_okM 153 mX9_isRow = true := by decide +kernel
set_option maxRecDepth 100000 in
theorem oX9_isText : x_okL mX9_isText 0 mX9_isText.2.2.2.2 = true := by decide +kernel
set_option maxRecDepth 100000 in
theorem wX9_isText : x_okM 154 mX9_isText = true := by decide +kernel
set_option maxRecDepth 100000 in
theorem oX9_row : x_okL mX9_row 0 mX9_row.2.2.2.2 = true := by decide +kernel
set_option maxRecDepth 100000 in
theorem wX9_row : x_okM 155 mX9_row = true := by decide +kernel
set_option maxRecDepth 100000 in
theorem oX9_makeRow : x_okL mX9_makeRow 0 mX9_makeRow.2.2.2.2 = true := by decide +kernel
set_option maxRecDepth 100000 in
theorem wX9_makeRow : x_okM 156 mX9_makeRow = true := by decide +kernel
set_option maxRecDepth 100000 in
theorem oX9_refused : x_okL mX9_refused 0 mX9_refused.2.2.2.2 = true := by decide +kernel
set_option maxRecDepth 100000 in
theorem wX9_refused : x_okM 157 mX9_refused = true := by decide +kernel
set_option maxRecDepth 100000 in
theorem oX9_lay : x_okL mX9_lay 0 mX9_lay.2.2.2.2 = true := by decide +kernel
set_option maxRecDepth 100000 in
theorem wX9_lay : x_okM 158 mX9_lay = true := by decide +kernel
set_option maxRecDepth 100000 in
theorem oX9_at : x_okL mX9_at 0 mX9_at.2.2.2.2 = true := by decide +kernel
set_option maxRecDepth 100000 in
theorem wX9_at : x_okM 159 mX9_at = true := by decide +kernel
set_option maxRecDepth 100000 in
theorem oX9_tear : x_okL mX9_tear 0 mX9_tear.2.2.2.2 = true := by decide +kernel
set_option maxRecDepth 100000 in
theorem wX9_tear : x_okM 160 mX9_tear = true := by decide +kernel
set_option maxRecDepth 100000 in
theorem oX9_isSpan : x_okL mX9_isSpan 0 mX9_isSpan.2.2.2.2 = true := by decide +kernel
set_option maxRecDepth 100000 in
theorem wX9_isSpan : x_okM 161 mX9_isSpan = true := by decide +kernel
set_option maxRecDepth 100000 in
theorem oX9_copy : x_okL mX9_copy 0 mX9_copy.2.2.2.2 = true := by decide +kernel
set_option maxRecDepth 100000 in
theorem wX9_copy : x_okM 162 mX9_copy = true := by decide +kernel
set_option maxRecDepth 100000 in
theorem oX9_mean : x_okL mX9_mean 0 mX9_mean.2.2.2.2 = true := by decide +kernel
set_option maxRecDepth 100000 in
theorem wX9_mean : x_okM 163 mX9_mean = true := by decide +kernel
set_option maxRecDepth 100000 in
theorem oX9_text : x_okL mX9_text 0 mX9_text.2.2.2.2 = true := by decide +kernel
set_option maxRecDepth 100000 in
theorem wX9_text : x_okM 164 mX9_text = true := by decide +kernel
set_option maxRecDepth 100000 in
theorem oX9_put : x_okL mX9_put 0 mX9_put.2.2.2.2 = true := by decide +kernel
set_option maxRecDepth 100000 in
theorem wX9_put : x_okM 165 mX9_put = true := by decide +kernel
set_option maxRecDepth 100000 in
theorem oX9_here : x_okL mX9_here 0 mX9_here.2.2.2.2 = true := by decide +kernel
set_option maxRecDepth 100000 in
theorem wX9_here : x_okM 166 mX9_here = true := by decide +kernel
set_option maxRecDepth 100000 in
theorem oX9_skip : x_okL mX9_skip 0 mX9_skip.2.2.2.2 = true := by decide +kernel
set_option maxRecDepth 100000 in
theorem wX9_skip : x_okM 167 mX9_skip = true := by decide +kernel
set_option maxRecDepth 100000 in
theorem oX9_figure : x_okL mX9_figure 0 mX9_figure.2.2.2.2 = true := by decide +kernel
set_option maxRecDepth 100000 in
theorem wX9_figure : x_okM 168 mX9_figure = true := by decide +kernel
set_option maxRecDepth 100000 in
theorem oX9_figures : x_okL mX9_figures 0 mX9_figures.2.2.2.2 = true := by decide +kernel
set_option maxRecDepth 100000 in
theorem wX9_figures : x_okM 169 mX9_figures = true := by decide +kernel
set_option maxRecDepth 100000 in
theorem oX9_readsSlit : x_okL mX9_readsSlit 0 mX9_readsSlit.2.2.2.2 = true := by decide +kernel
set_option maxRecDepth 100000 in
theorem wX9_readsSlit : x_okM 170 mX9_readsSlit = true := by decide +kernel
set_option maxRecDepth 100000 in
theorem oX9_kindOfLetter : x_okL mX9_kindOfLetter 0 mX9_kindOfLetter.2.2.2.2 = true := by decide +kernel
set_option maxRecDepth 100000 in
theorem wX9_kindOfLetter : x_okM 171 mX9_kindOfLetter = true := by decide +kernel
set_option maxRecDepth 100000 in
theorem oX9_readsLight : x_okL mX9_readsLight 0 mX9_readsLight.2.2.2.2 = true := by decide +kernel
set_option maxRecDepth 100000 in
theorem wX9_readsLight : x_okM 172 mX9_readsLight = true := by decide +kernel
set_option maxRecDepth 100000 in
theorem oX9_faultOf : x_okL mX9_faultOf 0 mX9_faultOf.2.2.2.2 = true := by decide +kernel
set_option maxRecDepth 100000 in
theorem wX9_faultOf : x_okM 173 mX9_faultOf = true := by decide +kernel
set_option maxRecDepth 100000 in
theorem oX9_fault : x_okL mX9_fault 0 mX9_fault.2.2.2.2 = true := by decide +kernel
set_option maxRecDepth 100000 in
theorem wX9_fault : x_okM 174 mX9_fault = true := by decide +kernel
set_option maxRecDepth 100000 in
theorem oX9_dome : x_okL mX9_dome 0 mX9_dome.2.2.2.2 = true := by decide +kernel
set_option maxRecDepth 100000 in
theorem wX9_dome : x_okM 175 mX9_dome = true := by decide +kernel
set_option maxRecDepth 100000 in
theorem oX9_isLight : x_okL mX9_isLight 0 mX9_isLight.2.2.2.2 = true := by decide +kernel
set_option maxRecDepth 100000 in
theorem wX9_isLight : x_okM 176 mX9_isLight = true := by decide +kernel
set_option maxRecDepth 100000 in
theorem oX9_ring : x_okL mX9_ring 0 mX9_ring.2.2.2.2 = true := by decide +kernel
set_option maxRecDepth 100000 in
theorem wX9_ring : x_okM 177 mX9_ring = true := by decide +kernel
set_option maxRecDepth 100000 in
theorem oX9_moved : x_okL mX9_moved 0 mX9_moved.2.2.2.2 = true := by decide +kernel
set_option maxRecDepth 100000 in
theorem wX9_moved : x_okM 178 mX9_moved = true := by decide +kernel
set_option maxRecDepth 100000 in
theorem oX9_placeAt : x_okL mX9_placeAt 0 mX9_placeAt.2.2.2.2 = true := by decide +kernel
set_option maxRecDepth 100000 in
theorem wX9_placeAt : x_okM 179 mX9_placeAt = true := by decide +kernel
set_option maxRecDepth 100000 in
theorem oX9_now : x_okL mX9_now 0 mX9_now.2.2.2.2 = true := by decide +kernel
set_option maxRecDepth 100000 in
theorem wX9_now : x_okM 180 mX9_now = true := by decide +kernel
set_option maxRecDepth 100000 in
theorem oX9_brightOf : x_okL mX9_brightOf 0 mX9_brightOf.2.2.2.2 = true := by decide +kernel
set_option maxRecDepth 100000 in
theorem wX9_brightOf : x_okM 181 mX9_brightOf = true := by decide +kernel
set_option maxRecDepth 100000 in
theorem oX9_brightAt : x_okL mX9_brightAt 0 mX9_brightAt.2.2.2.2 = true := by decide +kernel
set_option maxRecDepth 100000 in
theorem wX9_brightAt : x_okM 182 mX9_brightAt = true := by decide +kernel
set_option maxRecDepth 100000 in
theorem oX9_times : x_okL mX9_times 0 mX9_times.2.2.2.2 = true := by decide +kernel
set_option maxRecDepth 100000 in
theorem wX9_times : x_okM 183 mX9_times = true := by decide +kernel
set_option maxRecDepth 100000 in
theorem oX9_got : x_okL mX9_got 0 mX9_got.2.2.2.2 = true := by decide +kernel
set_option maxRecDepth 100000 in
theorem wX9_got : x_okM 184 mX9_got = true := by decide +kernel
set_option maxRecDepth 100000 in
theorem oX9_gotNow : x_okL mX9_gotNow 0 mX9_gotNow.2.2.2.2 = true := by decide +kernel
set_option maxRecDepth 100000 in
theorem wX9_gotNow : x_okM 185 mX9_gotNow = true := by decide +kernel
set_option maxRecDepth 100000 in
theorem oX9_toldOf : x_okL mX9_toldOf 0 mX9_toldOf.2.2.2.2 = true := by decide +kernel
set_option maxRecDepth 100000 in
theorem wX9_toldOf : x_okM 186 mX9_toldOf = true := by decide +kernel
set_option maxRecDepth 100000 in
theorem oX9_light : x_okL mX9_light 0 mX9_light.2.2.2.2 = true := by decide +kernel
set_option maxRecDepth 100000 in
theorem wX9_light : x_okM 187 mX9_light = true := by decide +kernel
set_option maxRecDepth 100000 in
theorem oX9_isOf : x_okL mX9_isOf 0 mX9_isOf.2.2.2.2 = true := by decide +kernel
set_option maxRecDepth 100000 in
theorem wX9_isOf : x_okM 188 mX9_isOf = true := by decide +kernel
set_option maxRecDepth 100000 in
theorem oX9_moves : x_okL mX9_moves 0 mX9_moves.2.2.2.2 = true := by decide +kernel
set_option maxRecDepth 100000 in
theorem wX9_moves : x_okM 189 mX9_moves = true := by decide +kernel
set_option maxRecDepth 100000 in
theorem oX9_back : x_okL mX9_back 0 mX9_back.2.2.2.2 = true := by decide +kernel
set_option maxRecDepth 100000 in
theorem wX9_back : x_okM 190 mX9_back = true := by decide +kernel
set_option maxRecDepth 100000 in
theorem oX9_fourBrights : x_okL mX9_fourBrights 0 mX9_fourBrights.2.2.2.2 = true := by decide +kernel
set_option maxRecDepth 100000 in
theorem wX9_fourBrights : x_okM 191 mX9_fourBrights = true := by decide +kernel
set_option maxRecDepth 100000 in
theorem oX9_offBest : x_okL mX9_offBest 0 mX9_offBest.2.2.2.2 = true := by decide +kernel
set_option maxRecDepth 100000 in
theorem wX9_offBest : x_okM 192 mX9_offBest = true := by decide +kernel
set_option maxRecDepth 100000 in
theorem oX9_mark : x_okL mX9_mark 0 mX9_mark.2.2.2.2 = true := by decide +kernel
set_option maxRecDepth 100000 in
theorem wX9_mark : x_okM 193 mX9_mark = true := by decide +kernel
set_option maxRecDepth 100000 in
theorem oX9_keepPast : x_okL mX9_keepPast 0 mX9_keepPast.2.2.2.2 = true := by decide +kernel
set_option maxRecDepth 100000 in
theorem wX9_keepPast : x_okM 194 mX9_keepPast = true := by decide +kernel
end
section
set_option maxRecDepth 100000 in
theorem oX9_doMoment : x_okL mX9_doMoment 0 mX9_doMoment.2.2.2.2 = true := by decide +kernel
set_option maxRecDepth 100000 in
theorem wX9_doMoment : x_okM 195 mX9_doMoment = true := by decide +kernel
set_option maxRecDepth 100000 in
theorem oX9_moment : x_okL mX9_moment 0 mX9_moment.2.2.2.2 = true := by decide +kernel
set_option maxRecDepth 100000 in
theorem wX9_moment : x_okM 196 mX9_moment = true := by decide +kernel
set_option maxRecDepth 100000 in
theorem oX9_effortFrom : x_okL mX9_effortFrom 0 mX9_effortFrom.2.2.2.2 = true := by decide +kernel
set_option maxRecDepth 100000 in
theorem wX9_effortFrom : x_okM 197 mX9_effortFrom = true := by decide +kernel
set_option maxRecDepth 100000 in
theorem oX9_doTurn : x_okL mX9_doTurn 0 mX9_doTurn.2.2.2.2 = true := by decide +kernel
set_option maxRecDepth 100000 in
theorem wX9_doTurn : x_okM 198 mX9_doTurn = true := by decide +kernel
set_option maxRecDepth 100000 in
theorem oX9_turn : x_okL mX9_turn 0 mX9_turn.2.2.2.2 = true := by decide +kernel
set_option maxRecDepth 100000 in
theorem wX9_turn : x_okM 199 mX9_turn = true := by decide +kernel
set_option maxRecDepth 100000 in
theorem oX9_undo : x_okL mX9_undo 0 mX9_undo.2.2.2.2 = true := by decide +kernel
set_option maxRecDepth 100000 in
theorem wX9_undo : x_okM 200 mX9_undo = true := by decide +kernel
set_option maxRecDepth 100000 in
theorem oX9_copyDome : x_okL mX9_copyDome 0 mX9_copyDome.2.2.2.2 = true := by decide +kernel
set_option maxRecDepth 100000 in
theorem wX9_copyDome : x_okM 201 mX9_copyDome = true := by decide +kernel
set_option maxRecDepth 100000 in
theorem oX9_keep : x_okL mX9_keep 0 mX9_keep.2.2.2.2 = true := by decide +kernel
set_option maxRecDepth 100000 in
theorem wX9_keep : x_okM 202 mX9_keep = true := by decide +kernel
set_option maxRecDepth 100000 in
theorem oX9_on : x_okL mX9_on 0 mX9_on.2.2.2.2 = true := by decide +kernel
set_option maxRecDepth 100000 in
theorem wX9_on : x_okM 203 mX9_on = true := by decide +kernel
set_option maxRecDepth 100000 in
theorem oX9_isAhead : x_okL mX9_isAhead 0 mX9_isAhead.2.2.2.2 = true := by decide +kernel
set_option maxRecDepth 100000 in
theorem wX9_isAhead : x_okM 204 mX9_isAhead = true := by decide +kernel
set_option maxRecDepth 100000 in
theorem oX9_place : x_okL mX9_place 0 mX9_place.2.2.2.2 = true := by decide +kernel
set_option maxRecDepth 100000 in
theorem wX9_place : x_okM 205 mX9_place = true := by decide +kernel
set_option maxRecDepth 100000 in
theorem oX9_gets : x_okL mX9_gets 0 mX9_gets.2.2.2.2 = true := by decide +kernel
set_option maxRecDepth 100000 in
theorem wX9_gets : x_okM 206 mX9_gets = true := by decide +kernel
set_option maxRecDepth 100000 in
theorem oX9_seen : x_okL mX9_seen 0 mX9_seen.2.2.2.2 = true := by decide +kernel
set_option maxRecDepth 100000 in
theorem wX9_seen : x_okM 207 mX9_seen = true := by decide +kernel
set_option maxRecDepth 100000 in
theorem oX9_stays : x_okL mX9_stays 0 mX9_stays.2.2.2.2 = true := by decide +kernel
set_option maxRecDepth 100000 in
theorem wX9_stays : x_okM 208 mX9_stays = true := by decide +kernel
set_option maxRecDepth 100000 in
theorem oX9_over : x_okL mX9_over 0 mX9_over.2.2.2.2 = true := by decide +kernel
set_option maxRecDepth 100000 in
theorem wX9_over : x_okM 209 mX9_over = true := by decide +kernel
set_option maxRecDepth 100000 in
theorem oX9_ahead : x_okL mX9_ahead 0 mX9_ahead.2.2.2.2 = true := by decide +kernel
set_option maxRecDepth 100000 in
theorem wX9_ahead : x_okM 210 mX9_ahead = true := by decide +kernel
set_option maxRecDepth 100000 in
theorem oX9_effort : x_okL mX9_effort 0 mX9_effort.2.2.2.2 = true := by decide +kernel
set_option maxRecDepth 100000 in
theorem wX9_effort : x_okM 211 mX9_effort = true := by decide +kernel
set_option maxRecDepth 100000 in
theorem oX9_layEfforts : x_okL mX9_layEfforts 0 mX9_layEfforts.2.2.2.2 = true := by decide +kernel
set_option maxRecDepth 100000 in
theorem wX9_layEfforts : x_okM 212 mX9_layEfforts = true := by decide +kernel
set_option maxRecDepth 100000 in
theorem oX9_costOf : x_okL mX9_costOf 0 mX9_costOf.2.2.2.2 = true := by decide +kernel
set_option maxRecDepth 100000 in
theorem wX9_costOf : x_okM 213 mX9_costOf = true := by decide +kernel
set_option maxRecDepth 100000 in
theorem oX9_onBy : x_okL mX9_onBy 0 mX9_onBy.2.2.2.2 = true := by decide +kernel
set_option maxRecDepth 100000 in
theorem wX9_onBy : x_okM 214 mX9_onBy = true := by decide +kernel
set_option maxRecDepth 100000 in
theorem oX9_layLeast : x_okL mX9_layLeast 0 mX9_layLeast.2.2.2.2 = true := by decide +kernel
set_option maxRecDepth 100000 in
theorem wX9_layLeast : x_okM 215 mX9_layLeast = true := by decide +kernel
set_option maxRecDepth 100000 in
theorem oX9_follow : x_okL mX9_follow 0 mX9_follow.2.2.2.2 = true := by decide +kernel
set_option maxRecDepth 100000 in
theorem wX9_follow : x_okM 216 mX9_follow = true := by decide +kernel
set_option maxRecDepth 100000 in
theorem oX9_turns : x_okL mX9_turns 0 mX9_turns.2.2.2.2 = true := by decide +kernel
set_option maxRecDepth 100000 in
theorem wX9_turns : x_okM 217 mX9_turns = true := by decide +kernel
set_option maxRecDepth 100000 in
theorem oX9_most : x_okL mX9_most 0 mX9_most.2.2.2.2 = true := by decide +kernel
set_option maxRecDepth 100000 in
theorem wX9_most : x_okM 218 mX9_most = true := by decide +kernel
set_option maxRecDepth 100000 in
theorem oX9_areAll : x_okL mX9_areAll 0 mX9_areAll.2.2.2.2 = true := by decide +kernel
set_option maxRecDepth 100000 in
theorem wX9_areAll : x_okM 219 mX9_areAll = true := by decide +kernel
set_option maxRecDepth 100000 in
theorem oX9_noTurns : x_okL mX9_noTurns 0 mX9_noTurns.2.2.2.2 = true := by decide +kernel
set_option maxRecDepth 100000 in
theorem wX9_noTurns : x_okM 220 mX9_noTurns = true := by decide +kernel
set_option maxRecDepth 100000 in
theorem oX9_by : x_okL mX9_by 0 mX9_by.2.2.2.2 = true := by decide +kernel
set_option maxRecDepth 100000 in
theorem wX9_by : x_okM 221 mX9_by = true := by decide +kernel
set_option maxRecDepth 100000 in
theorem oX9_nextOrder : x_okL mX9_nextOrder 0 mX9_nextOrder.2.2.2.2 = true := by decide +kernel
set_option maxRecDepth 100000 in
theorem wX9_nextOrder : x_okM 222 mX9_nextOrder = true := by decide +kernel
set_option maxRecDepth 100000 in
theorem oX9_orderEffort : x_okL mX9_orderEffort 0 mX9_orderEffort.2.2.2.2 = true := by decide +kernel
set_option maxRecDepth 100000 in
theorem wX9_orderEffort : x_okM 223 mX9_orderEffort = true := by decide +kernel
set_option maxRecDepth 100000 in
theorem oX9_order : x_okL mX9_order 0 mX9_order.2.2.2.2 = true := by decide +kernel
set_option maxRecDepth 100000 in
theorem wX9_order : x_okM 224 mX9_order = true := by decide +kernel
set_option maxRecDepth 100000 in
theorem oX9_noNotes : x_okL mX9_noNotes 0 mX9_noNotes.2.2.2.2 = true := by decide +kernel
set_option maxRecDepth 100000 in
theorem wX9_noNotes : x_okM 225 mX9_noNotes = true := by decide +kernel
set_option maxRecDepth 100000 in
theorem oX9_isSo : x_okL mX9_isSo 0 mX9_isSo.2.2.2.2 = true := by decide +kernel
set_option maxRecDepth 100000 in
theorem wX9_isSo : x_okM 226 mX9_isSo = true := by decide +kernel
set_option maxRecDepth 100000 in
theorem oX9_kinds : x_okL mX9_kinds 0 mX9_kinds.2.2.2.2 = true := by decide +kernel
set_option maxRecDepth 100000 in
theorem wX9_kinds : x_okM 227 mX9_kinds = true := by decide +kernel
set_option maxRecDepth 100000 in
theorem oX9_places : x_okL mX9_places 0 mX9_places.2.2.2.2 = true := by decide +kernel
set_option maxRecDepth 100000 in
theorem wX9_places : x_okM 228 mX9_places = true := by decide +kernel
set_option maxRecDepth 100000 in
theorem oX9_speeds : x_okL mX9_speeds 0 mX9_speeds.2.2.2.2 = true := by decide +kernel
set_option maxRecDepth 100000 in
theorem wX9_speeds : x_okM 229 mX9_speeds = true := by decide +kernel
set_option maxRecDepth 100000 in
theorem oX9_fainter : x_okL mX9_fainter 0 mX9_fainter.2.2.2.2 = true := by decide +kernel
set_option maxRecDepth 100000 in
theorem wX9_fainter : x_okM 230 mX9_fainter = true := by decide +kernel
set_option maxRecDepth 100000 in
theorem oX9_worseOf : x_okL mX9_worseOf 0 mX9_worseOf.2.2.2.2 = true := by decide +kernel
set_option maxRecDepth 100000 in
theorem wX9_worseOf : x_okM 231 mX9_worseOf = true := by decide +kernel
set_option maxRecDepth 100000 in
theorem oX9_cloud : x_okL mX9_cloud 0 mX9_cloud.2.2.2.2 = true := by decide +kernel
set_option maxRecDepth 100000 in
theorem wX9_cloud : x_okM 232 mX9_cloud = true := by decide +kernel
set_option maxRecDepth 100000 in
theorem oX9_tellParts : x_okL mX9_tellParts 0 mX9_tellParts.2.2.2.2 = true := by decide +kernel
set_option maxRecDepth 100000 in
theorem wX9_tellParts : x_okM 233 mX9_tellParts = true := by decide +kernel
set_option maxRecDepth 100000 in
theorem oX9_layAsleep : x_okL mX9_layAsleep 0 mX9_layAsleep.2.2.2.2 = true := by decide +kernel
set_option maxRecDepth 100000 in
theorem wX9_layAsleep : x_okM 234 mX9_layAsleep = true := by decide +kernel
set_option maxRecDepth 100000 in
theorem oX9_waysOf : x_okL mX9_waysOf 0 mX9_waysOf.2.2.2.2 = true := by decide +kernel
set_option maxRecDepth 100000 in
theorem wX9_waysOf : x_okM 235 mX9_waysOf = true := by decide +kernel
set_option maxRecDepth 100000 in
theorem oX9_tellAsleep : x_okL mX9_tellAsleep 0 mX9_tellAsleep.2.2.2.2 = true := by decide +kernel
set_option maxRecDepth 100000 in
theorem wX9_tellAsleep : x_okM 236 mX9_tellAsleep = true := by decide +kernel
set_option maxRecDepth 100000 in
theorem oX9_mid : x_okL mX9_mid 0 mX9_mid.2.2.2.2 = true := by decide +kernel
set_option maxRecDepth 100000 in
theorem wX9_mid : x_okM 237 mX9_mid = true := by decide +kernel
set_option maxRecDepth 100000 in
theorem oX9_odds : x_okL mX9_odds 0 mX9_odds.2.2.2.2 = true := by decide +kernel
set_option maxRecDepth 100000 in
theorem wX9_odds : x_okM 238 mX9_odds = true := by decide +kernel
set_option maxRecDepth 100000 in
theorem oX9_lots : x_okL mX9_lots 0 mX9_lots.2.2.2.2 = true := by decide +kernel
set_option maxRecDepth 100000 in
theorem wX9_lots : x_okM 239 mX9_lots = true := by decide +kernel
set_option maxRecDepth 100000 in
theorem oX9_asked : x_okL mX9_asked 0 mX9_asked.2.2.2.2 = true := by decide +kernel
set_option maxRecDepth 100000 in
theorem wX9_asked : x_okM 240 mX9_asked = true := by decide +kernel
set_option maxRecDepth 100000 in
theorem oX9_upper : x_okL mX9_upper 0 mX9_upper.2.2.2.2 = true := by decide +kernel
set_option maxRecDepth 100000 in
theorem wX9_upper : x_okM 241 mX9_upper = true := by decide +kernel
set_option maxRecDepth 100000 in
theorem oX9_lower : x_okL mX9_lower 0 mX9_lower.2.2.2.2 = true := by decide +kernel
set_option maxRecDepth 100000 in
theorem wX9_lower : x_okM 242 mX9_lower = true := by decide +kernel
set_option maxRecDepth 100000 in
theorem oX9_kindMany : x_okL mX9_kindMany 0 mX9_kindMany.2.2.2.2 = true := by decide +kernel
set_option maxRecDepth 100000 in
theorem wX9_kindMany : x_okM 243 mX9_kindMany = true := by decide +kernel
set_option maxRecDepth 100000 in
theorem oX9_thereOf : x_okL mX9_thereOf 0 mX9_thereOf.2.2.2.2 = true := by decide +kernel
set_option maxRecDepth 100000 in
theorem wX9_thereOf : x_okM 244 mX9_thereOf = true := by decide +kernel
set_option maxRecDepth 100000 in
theorem oX9_countOf : x_okL mX9_countOf 0 mX9_countOf.2.2.2.2 = true := by decide +kernel
set_option maxRecDepth 100000 in
theorem wX9_countOf : x_okM 245 mX9_countOf = true := by decide +kernel
set_option maxRecDepth 100000 in
theorem oX9_count : x_okL mX9_count 0 mX9_count.2.2.2.2 = true := by decide +kernel
set_option maxRecDepth 100000 in
theorem wX9_count : x_okM 246 mX9_count = true := by decide +kernel
set_option maxRecDepth 100000 in
theorem oX9_finding : x_okL mX9_finding 0 mX9_finding.2.2.2.2 = true := by decide +kernel
set_option maxRecDepth 100000 in
theorem wX9_finding : x_okM 247 mX9_finding = true := by decide +kernel
set_option maxRecDepth 100000 in
theorem oX9_findings : x_okL mX9_findings 0 mX9_findings.2.2.2.2 = true := by decide +kernel
set_option maxRecDepth 100000 in
theorem wX9_findings : x_okM 248 mX9_findings = true := by decide +kernel
set_option maxRecDepth 100000 in
theorem oX9_digest : x_okL mX9_digest 0 mX9_digest.2.2.2.2 = true := by decide +kernel
set_option maxRecDepth 100000 in
theorem wX9_digest : x_okM 249 mX9_digest = true := by decide +kernel
set_option maxRecDepth 100000 in
theorem oJ6_bitCount_0f7a4 : x_okL mJ6_bitCount_0f7a4 0 mJ6_bitCount_0f7a4.2.2.2.2 = true := by decide +kernel
set_option maxRecDepth 100000 in
theorem wJ6_bitCount_0f7a4 : x_okM 250 mJ6_bitCount_0f7a4 = true := by decide +kernel
set_option maxRecDepth 100000 in
theorem oJ9_floorMod_7cf53 : x_okL mJ9_floorMod_7cf53 0 mJ9_floorMod_7cf53.2.2.2.2 = true := by decide +kernel
set_option maxRecDepth 100000 in
theorem wJ9_floorMod_7cf53 : x_okM 251 mJ9_floorMod_7cf53 = true := by decide +kernel
set_option maxRecDepth 100000 in
theorem oJ9_abs_0f7a4 : x_okL mJ9_abs_0f7a4 0 mJ9_abs_0f7a4.2.2.2.2 = true := by decide +kernel
set_option maxRecDepth 100000 in
theorem wJ9_abs_0f7a4 : x_okM 252 mJ9_abs_0f7a4 = true := by decide +kernel
set_option maxRecDepth 100000 in
theorem oJ9_max_7cf53 : x_okL mJ9_max_7cf53 0 mJ9_max_7cf53.2.2.2.2 = true := by decide +kernel
set_option maxRecDepth 100000 in
theorem wJ9_max_7cf53 : x_okM 253 mJ9_max_7cf53 = true := by decide +kernel
set_option maxRecDepth 100000 in
theorem oJ9_min_7cf53 : x_okL mJ9_min_7cf53 0 mJ9_min_7cf53.2.2.2.2 = true := by decide +kernel
set_option maxRecDepth 100000 in
theorem wJ9_min_7cf53 : x_okM 254 mJ9_min_7cf53 = true := by decide +kernel
set_option maxRecDepth 100000 in
theorem oJ7_rangeCheck_23922 : x_okL mJ7_rangeCheck_23922 0 mJ7_rangeCheck_23922.2.2.2.2 = true := by decide +kernel
set_option maxRecDepth 100000 in
theorem wJ7_rangeCheck_23922 : x_okM 255 mJ7_rangeCheck_23922 = true := by decide +kernel
set_option maxRecDepth 100000 in
theorem oJ7_fill_d0a16 : x_okL mJ7_fill_d0a16 0 mJ7_fill_d0a16.2.2.2.2 = true := by decide +kernel
set_option maxRecDepth 100000 in
theorem wJ7_fill_d0a16 : x_okM 256 mJ7_fill_d0a16 = true := by decide +kernel
set_option maxRecDepth 100000 in
theorem oJ7_fill_53178 : x_okL mJ7_fill_53178 0 mJ7_fill_53178.2.2.2.2 = true := by decide +kernel
set_option maxRecDepth 100000 in
theorem wJ7_fill_53178 : x_okM 257 mJ7_fill_53178 = true := by decide +kernel
set_option maxRecDepth 100000 in
theorem oJ7_fill_fda19 : x_okL mJ7_fill_fda19 0 mJ7_fill_fda19.2.2.2.2 = true := by decide +kernel
set_option maxRecDepth 100000 in
theorem wJ7_fill_fda19 : x_okM 258 mJ7_fill_fda19 = true := by decide +kernel
end
section
def x_all (p : Nat → XM → Prop) : Nat → List XM → Prop
  | _, [] => True
  | k, m :: l => p k m ∧ x_all p (k + 1) l
theorem x_all_at {p : Nat → XM → Prop} : ∀ (l : List XM) (k i : Nat) (m : XM), x_all p k l → l[i]? = some m → p (k + i) m
  | [], _, _, _, _, h => by simp at h
  | m0 :: l, k, i, m, ho, h => by
    cases i with
    | zero =>
      rw [List.getElem?_cons_zero] at h
      cases h
      exact ho.1
    | succ i =>
      rw [List.getElem?_cons_succ] at h
      have := x_all_at l (k + 1) i m ho.2 h
      rw [show k + (i + 1) = k + 1 + i by omega]
      exact this
set_option maxRecDepth 100000 in
theorem xT_ok : x_all (fun μ M => x_okL M 0 M.2.2.2.2 = true ∧ x_okM μ M = true) 0 xT := ⟨⟨oX0_init, wX0_init⟩, ⟨oX0_least, wX0_least⟩, ⟨oX0_writeTurns, wX0_writeTurns⟩, ⟨oX0_leastBehind, wX0_leastBehind⟩, ⟨oX0_mostWithin, wX0_mostWithin⟩, ⟨oX0_raiseMost, wX0_raiseMost⟩, ⟨oX0_mostByCloud, wX0_mostByCloud⟩, ⟨oX0_mostBehindClouds, wX0_mostBehindClouds⟩, ⟨oX0_leastOrder, wX0_leastOrder⟩, ⟨oX0_lowerOrders, wX0_lowerOrders⟩, ⟨oX0_swapTables, wX0_swapTables⟩, ⟨oX1_init, wX1_init⟩, ⟨oX1_become, wX1_become⟩, ⟨oX1_standAt, wX1_standAt⟩, ⟨oX1_kind, wX1_kind⟩, ⟨oX1_speed, wX1_speed⟩, ⟨oX1_toldBright, wX1_toldBright⟩, ⟨oX1_isOf, wX1_isOf⟩, ⟨oX1_movedBy, wX1_movedBy⟩, ⟨oX1_placeAt, wX1_placeAt⟩, ⟨oX1_brightAt, wX1_brightAt⟩, ⟨oX1_brightTogether, wX1_brightTogether⟩, ⟨oX1_movesWithin, wX1_movesWithin⟩, ⟨oX1_returnsAfter, wX1_returnsAfter⟩, ⟨oX2_init, wX2_init⟩, ⟨oX2_room, wX2_room⟩, ⟨oX2_size, wX2_size⟩, ⟨oX2_isMissing, wX2_isMissing⟩, ⟨oX2_remove, wX2_remove⟩, ⟨oX2_renew, wX2_renew⟩, ⟨oX2_holds, wX2_holds⟩, ⟨oX2_holdsRun, wX2_holdsRun⟩, ⟨oX2_read, wX2_read⟩, ⟨oX2_write, wX2_write⟩, ⟨oX2_take, wX2_take⟩, ⟨oX2_sum, wX2_sum⟩, ⟨oX2_isAllWithin, wX2_isAllWithin⟩, ⟨oX2_firstLess, wX2_firstLess⟩, ⟨oX2_mixedInto, wX2_mixedInto⟩, ⟨oX3_init, wX3_init⟩, ⟨oX3_begin, wX3_begin⟩, ⟨oX3_forget, wX3_forget⟩, ⟨oX3_isForgotten, wX3_isForgotten⟩, ⟨oX3_done, wX3_done⟩, ⟨oX3_now, wX3_now⟩, ⟨oX3_first, wX3_first⟩, ⟨oX3_spent, wX3_spent⟩, ⟨oX3_hasRoom, wX3_hasRoom⟩, ⟨oX3_pass, wX3_pass⟩, ⟨oX3_turnBy, wX3_turnBy⟩, ⟨oX3_rewind, wX3_rewind⟩, ⟨oX3_become, wX3_become⟩, ⟨oX3_note, wX3_note⟩, ⟨oX4_init, wX4_init⟩, ⟨oX4_faultOf, wX4_faultOf⟩, ⟨oX4_build, wX4_build⟩, ⟨oX4_readLight, wX4_readLight⟩, ⟨oX4_skipBlanks, wX4_skipBlanks⟩, ⟨oX4_readDomeLetter, wX4_readDomeLetter⟩, ⟨oX4_kindLetter, wX4_kindLetter⟩, ⟨oX4_placeFigures, wX4_placeFigures⟩, ⟨oX4_figure, wX4_figure⟩, ⟨oX4_goOnIf, wX4_goOnIf⟩, ⟨oX5_init, wX5_init⟩, ⟨oX5_whole, wX5_whole⟩, ⟨oX5_weigh, wX5_weigh⟩, ⟨oX5_spread, wX5_spread⟩, ⟨oX5_gotAt, wX5_gotAt⟩, ⟨oX5_weightLeft, wX5_weightLeft⟩, ⟨oX6_init, wX6_init⟩, ⟨oX6_become, wX6_become⟩, ⟨oX6_broad, wX6_broad⟩, ⟨oX6_times, wX6_times⟩, ⟨oX6_gain, wX6_gain⟩, ⟨oX6_effortOf, wX6_effortOf⟩, ⟨oX6_leastWayToBest, wX6_leastWayToBest⟩, ⟨oX7_init, wX7_init⟩, ⟨oX7_fill, wX7_fill⟩, ⟨oX7_gain, wX7_gain⟩, ⟨oX8_init, wX8_init⟩, ⟨oX8_row, wX8_row⟩, ⟨oX8_lay, wX8_lay⟩, ⟨oX8_at, wX8_at⟩, ⟨oX8_tear, wX8_tear⟩, ⟨oX8_copy, wX8_copy⟩, ⟨oX8_mean, wX8_mean⟩, ⟨oX8_text, wX8_text⟩, ⟨oX8_put, wX8_put⟩, ⟨oX8_fault, wX8_fault⟩, ⟨oX8_dome, wX8_dome⟩, ⟨oX8_light, wX8_light⟩, ⟨oX8_mark, wX8_mark⟩, ⟨oX8_moment, wX8_moment⟩, ⟨oX8_turn, wX8_turn⟩, ⟨oX8_undo, wX8_undo⟩, ⟨oX8_keep, wX8_keep⟩, ⟨oX8_on, wX8_on⟩, ⟨oX8_place, wX8_place⟩, ⟨oX8_gets, wX8_gets⟩, ⟨oX8_seen, wX8_seen⟩, ⟨oX8_stays, wX8_stays⟩, ⟨oX8_ahead, wX8_ahead⟩, ⟨oX8_effort, wX8_effort⟩, ⟨oX8_follow, wX8_follow⟩, ⟨oX8_turns, wX8_turns⟩, ⟨oX8_most, wX8_most⟩, ⟨oX8_by, wX8_by⟩, ⟨oX8_order, wX8_order⟩, ⟨oX8_kinds, wX8_kinds⟩, ⟨oX8_places, wX8_places⟩, ⟨oX8_speeds, wX8_speeds⟩, ⟨oX8_fainter, wX8_fainter⟩, ⟨oX8_cloud, wX8_cloud⟩, ⟨oX8_mid, wX8_mid⟩, ⟨oX8_odds, wX8_odds⟩, ⟨oX8_lots, wX8_lots⟩, ⟨oX8_asked, wX8_asked⟩, ⟨oX8_upper, wX8_upper⟩, ⟨oX8_lower, wX8_lower⟩, ⟨oX8_count, wX8_count⟩, ⟨oX8_finding, wX8_finding⟩, ⟨oX8_findings, wX8_findings⟩, ⟨oX8_digest, wX8_digest⟩, ⟨oX8_round, wX8_round⟩, ⟨oX8_isTooFar, wX8_isTooFar⟩, ⟨oX8_isNoFollowing, wX8_isNoFollowing⟩, ⟨oX8_lineAt, wX8_lineAt⟩, ⟨oX8_lightAt, wX8_lightAt⟩, ⟨oX8_found, wX8_found⟩, ⟨oX8_renewed, wX8_renewed⟩, ⟨oX8_refuseLine, wX8_refuseLine⟩, ⟨oX8_refusePlace, wX8_refusePlace⟩, ⟨oX8_refuseTurns, wX8_refuseTurns⟩, ⟨oX8_refuseNotes, wX8_refuseNotes⟩, ⟨oX8_gainIn, wX8_gainIn⟩, ⟨oX8_timesOver, wX8_timesOver⟩, ⟨oX8_overFor, wX8_overFor⟩, ⟨oX8_guessed, wX8_guessed⟩, ⟨oX8_guessFits, wX8_guessFits⟩, ⟨oX8_passMoment, wX8_passMoment⟩, ⟨oX8_bySleep, wX8_bySleep⟩, ⟨oX8_tellChances, wX8_tellChances⟩, ⟨oX8_greatestCommon, wX8_greatestCommon⟩, ⟨oX8_factOf, wX8_factOf⟩, ⟨oX8_counted, wX8_counted⟩, ⟨oX8_lightsOf, wX8_lightsOf⟩, ⟨oX8_linesThere, wX8_linesThere⟩, ⟨oX8_keptThere, wX8_keptThere⟩, ⟨oX9_init, wX9_init⟩, ⟨oX9_in, wX9_in⟩, ⟨oX9_has, wX9_has⟩, ⟨oX9_find, wX9_find⟩, ⟨oX9_tell, wX9_tell⟩, ⟨oX9_isRow, wX9_isRow⟩, ⟨oX9_isText, wX9_isText⟩, ⟨oX9_row, wX9_row⟩, ⟨oX9_makeRow, wX9_makeRow⟩, ⟨oX9_refused, wX9_refused⟩, ⟨oX9_lay, wX9_lay⟩, ⟨oX9_at, wX9_at⟩, ⟨oX9_tear, wX9_tear⟩, ⟨oX9_isSpan, wX9_isSpan⟩, ⟨oX9_copy, wX9_copy⟩, ⟨oX9_mean, wX9_mean⟩, ⟨oX9_text, wX9_text⟩, ⟨oX9_put, wX9_put⟩, ⟨oX9_here, wX9_here⟩, ⟨oX9_skip, wX9_skip⟩, ⟨oX9_figure, wX9_figure⟩, ⟨oX9_figures, wX9_figures⟩, ⟨oX9_readsSlit, wX9_readsSlit⟩, ⟨oX9_kindOfLetter, wX9_kindOfLetter⟩, ⟨oX9_readsLight, wX9_readsLight⟩, ⟨oX9_faultOf, wX9_faultOf⟩, ⟨oX9_fault, wX9_fault⟩, ⟨oX9_dome, wX9_dome⟩, ⟨oX9_isLight, wX9_isLight⟩, ⟨oX9_ring, wX9_ring⟩, ⟨oX9_moved, wX9_moved⟩, ⟨oX9_placeAt, wX9_placeAt⟩, ⟨oX9_now, wX9_now⟩, ⟨oX9_brightOf, wX9_brightOf⟩, ⟨oX9_brightAt, wX9_brightAt⟩, ⟨oX9_times, wX9_times⟩, ⟨oX9_got, wX9_got⟩, ⟨oX9_gotNow, wX9_gotNow⟩, ⟨oX9_toldOf, wX9_toldOf⟩, ⟨oX9_light, wX9_light⟩, ⟨oX9_isOf, wX9_isOf⟩, ⟨oX9_moves, wX9_moves⟩, ⟨oX9_back, wX9_back⟩, ⟨oX9_fourBrights, wX9_fourBrights⟩, ⟨oX9_offBest, wX9_offBest⟩, ⟨oX9_mark, wX9_mark⟩, ⟨oX9_keepPast, wX9_keepPast⟩, ⟨oX9_doMoment, wX9_doMoment⟩, ⟨oX9_moment, wX9_moment⟩, ⟨oX9_effortFrom, wX9_effortFrom⟩, ⟨oX9_doTurn, wX9_doTurn⟩, ⟨oX9_turn, wX9_turn⟩, ⟨oX9_undo, wX9_undo⟩, ⟨oX9_copyDome, wX9_copyDome⟩, ⟨oX9_keep, wX9_keep⟩, ⟨oX9_on, wX9_on⟩, ⟨oX9_isAhead, wX9_isAhead⟩, ⟨oX9_place, wX9_place⟩, ⟨oX9_gets, wX9_gets⟩, ⟨oX9_seen, wX9_seen⟩, ⟨oX9_stays, wX9_stays⟩, ⟨oX9_over, wX9_over⟩, ⟨oX9_ahead, wX9_ahead⟩, ⟨oX9_effort, wX9_effort⟩, ⟨oX9_layEfforts, wX9_layEfforts⟩, ⟨oX9_costOf, wX9_costOf⟩, ⟨oX9_onBy, wX9_onBy⟩, ⟨oX9_layLeast, wX9_layLeast⟩, ⟨oX9_follow, wX9_follow⟩, ⟨oX9_turns, wX9_turns⟩, ⟨oX9_most, wX9_most⟩, ⟨oX9_areAll, wX9_areAll⟩, ⟨oX9_noTurns, wX9_noTurns⟩, ⟨oX9_by, wX9_by⟩, ⟨oX9_nextOrder, wX9_nextOrder⟩, ⟨oX9_orderEffort, wX9_orderEffort⟩, ⟨oX9_order, wX9_order⟩, ⟨oX9_noNotes, wX9_noNotes⟩, ⟨oX9_isSo, wX9_isSo⟩, ⟨oX9_kinds, wX9_kinds⟩, ⟨oX9_places, wX9_places⟩, ⟨oX9_speeds, wX9_speeds⟩, ⟨oX9_fainter, wX9_fainter⟩, ⟨oX9_worseOf, wX9_worseOf⟩, ⟨oX9_cloud, wX9_cloud⟩, ⟨oX9_tellParts, wX9_tellParts⟩, ⟨oX9_layAsleep, wX9_layAsleep⟩, ⟨oX9_waysOf, wX9_waysOf⟩, ⟨oX9_tellAsleep, wX9_tellAsleep⟩, ⟨oX9_mid, wX9_mid⟩, ⟨oX9_odds, wX9_odds⟩, ⟨oX9_lots, wX9_lots⟩, ⟨oX9_asked, wX9_asked⟩, ⟨oX9_upper, wX9_upper⟩, ⟨oX9_lower, wX9_lower⟩, ⟨oX9_kindMany, wX9_kindMany⟩, ⟨oX9_thereOf, wX9_thereOf⟩, ⟨oX9_countOf, wX9_countOf⟩, ⟨oX9_count, wX9_count⟩, ⟨oX9_finding, wX9_finding⟩, ⟨oX9_findings, wX9_findings⟩, ⟨oX9_digest, wX9_digest⟩, ⟨oJ6_bitCount_0f7a4, wJ6_bitCount_0f7a4⟩, ⟨oJ9_floorMod_7cf53, wJ9_floorMod_7cf53⟩, ⟨oJ9_abs_0f7a4, wJ9_abs_0f7a4⟩, ⟨oJ9_max_7cf53, wJ9_max_7cf53⟩, ⟨oJ9_min_7cf53, wJ9_min_7cf53⟩, ⟨oJ7_rangeCheck_23922, wJ7_rangeCheck_23922⟩, ⟨oJ7_fill_d0a16, wJ7_fill_d0a16⟩, ⟨oJ7_fill_53178, wJ7_fill_53178⟩, ⟨oJ7_fill_fda19, wJ7_fill_fda19⟩, trivial⟩
theorem xT_at {μ : Nat} {M : XM} (h : xT[μ]? = some M) : (∀ (pc : Nat) (e : XE), M.2.2.2.2[pc]? = some e → x_okE M pc e = true) ∧ x_okM μ M = true := by
  have h1 := x_all_at xT 0 μ M xT_ok h
  rw [Nat.zero_add] at h1
  refine ⟨fun pc e he => ?_, h1.2⟩
  have h2 := x_okL_at _ 0 pc e h1.1 he
  rw [Nat.zero_add] at h2
  exact h2
end
section
set_option maxRecDepth 100000 in
theorem oL_0 : x_okL mL_law 0 ((mL_law.2.2.2.2.drop 0).take 30) = true := by decide +kernel
set_option maxRecDepth 100000 in
theorem oL_1 : x_okL mL_law 30 ((mL_law.2.2.2.2.drop 30).take 30) = true := by decide +kernel
set_option maxRecDepth 100000 in
theorem oL_2 : x_okL mL_law 60 ((mL_law.2.2.2.2.drop 60).take 30) = true := by decide +kernel
set_option maxRecDepth 100000 in
theorem oL_3 : x_okL mL_law 90 ((mL_law.2.2.2.2.drop 90).take 30) = true := by decide +kernel
set_option maxRecDepth 100000 in
theorem oL_4 : x_okL mL_law 120 ((mL_law.2.2.2.2.drop 120).take 30) = true := by decide +kernel
set_option maxRecDepth 100000 in
theorem oL_5 : x_okL mL_law 150 ((mL_law.2.2.2.2.drop 150).take 30) = true := by decide +kernel
set_option maxRecDepth 100000 in
theorem oL_6 : x_okL mL_law 180 ((mL_law.2.2.2.2.drop 180).take 30) = true := by decide +kernel
set_option maxRecDepth 100000 in
theorem oL_7 : x_okL mL_law 210 ((mL_law.2.2.2.2.drop 210).take 30) = true := by decide +kernel
set_option maxRecDepth 100000 in
theorem oL_8 : x_okL mL_law 240 ((mL_law.2.2.2.2.drop 240).take 30) = true := by decide +kernel
set_option maxRecDepth 100000 in
theorem oL_9 : x_okL mL_law 270 ((mL_law.2.2.2.2.drop 270).take 30) = true := by decide +kernel
end
section
set_option maxRecDepth 100000 in
theorem oL_10 : x_okL mL_law 300 ((mL_law.2.2.2.2.drop 300).take 30) = true := by decide +kernel
set_option maxRecDepth 100000 in
theorem oL_11 : x_okL mL_law 330 ((mL_law.2.2.2.2.drop 330).take 30) = true := by decide +kernel
set_option maxRecDepth 100000 in
theorem oL_12 : x_okL mL_law 360 ((mL_law.2.2.2.2.drop 360).take 30) = true := by decide +kernel
set_option maxRecDepth 100000 in
theorem oL_13 : x_okL mL_law 390 ((mL_law.2.2.2.2.drop 390).take 30) = true := by decide +kernel
set_option maxRecDepth 100000 in
theorem oL_14 : x_okL mL_law 420 ((mL_law.2.2.2.2.drop 420).take 30) = true := by decide +kernel
set_option maxRecDepth 100000 in
theorem oL_15 : x_okL mL_law 450 ((mL_law.2.2.2.2.drop 450).take 30) = true := by decide +kernel
set_option maxRecDepth 100000 in
theorem oL_16 : x_okL mL_law 480 ((mL_law.2.2.2.2.drop 480).take 30) = true := by decide +kernel
set_option maxRecDepth 100000 in
theorem oL_17 : x_okL mL_law 510 ((mL_law.2.2.2.2.drop 510).take 30) = true := by decide +kernel
set_option maxRecDepth 100000 in
theorem oL_18 : x_okL mL_law 540 ((mL_law.2.2.2.2.drop 540).take 30) = true := by decide +kernel
set_option maxRecDepth 100000 in
theorem oL_19 : x_okL mL_law 570 ((mL_law.2.2.2.2.drop 570).take 30) = true := by decide +kernel
end
section
set_option maxRecDepth 100000 in
theorem oL_20 : x_okL mL_law 600 ((mL_law.2.2.2.2.drop 600).take 30) = true := by decide +kernel
set_option maxRecDepth 100000 in
theorem oL_21 : x_okL mL_law 630 ((mL_law.2.2.2.2.drop 630).take 30) = true := by decide +kernel
set_option maxRecDepth 100000 in
theorem oL_22 : x_okL mL_law 660 ((mL_law.2.2.2.2.drop 660).take 30) = true := by decide +kernel
set_option maxRecDepth 100000 in
theorem oL_23 : x_okL mL_law 690 ((mL_law.2.2.2.2.drop 690).take 30) = true := by decide +kernel
set_option maxRecDepth 100000 in
theorem oL_24 : x_okL mL_law 720 ((mL_law.2.2.2.2.drop 720).take 30) = true := by decide +kernel
set_option maxRecDepth 100000 in
theorem oL_25 : x_okL mL_law 750 ((mL_law.2.2.2.2.drop 750).take 30) = true := by decide +kernel
set_option maxRecDepth 100000 in
theorem oL_26 : x_okL mL_law 780 ((mL_law.2.2.2.2.drop 780).take 30) = true := by decide +kernel
set_option maxRecDepth 100000 in
theorem oL_27 : x_okL mL_law 810 ((mL_law.2.2.2.2.drop 810).take 30) = true := by decide +kernel
set_option maxRecDepth 100000 in
theorem oL_28 : x_okL mL_law 840 ((mL_law.2.2.2.2.drop 840).take 30) = true := by decide +kernel
set_option maxRecDepth 100000 in
theorem oL_29 : x_okL mL_law 870 ((mL_law.2.2.2.2.drop 870).take 30) = true := by decide +kernel
end
section
set_option maxRecDepth 100000 in
theorem oL_30 : x_okL mL_law 900 ((mL_law.2.2.2.2.drop 900).take 30) = true := by decide +kernel
set_option maxRecDepth 100000 in
theorem oL_31 : x_okL mL_law 930 ((mL_law.2.2.2.2.drop 930).take 30) = true := by decide +kernel
set_option maxRecDepth 100000 in
theorem oL_32 : x_okL mL_law 960 ((mL_law.2.2.2.2.drop 960).take 30) = true := by decide +kernel
set_option maxRecDepth 100000 in
theorem oL_33 : x_okL mL_law 990 ((mL_law.2.2.2.2.drop 990).take 30) = true := by decide +kernel
set_option maxRecDepth 100000 in
theorem oL_34 : x_okL mL_law 1020 ((mL_law.2.2.2.2.drop 1020).take 30) = true := by decide +kernel
set_option maxRecDepth 100000 in
theorem oL_35 : x_okL mL_law 1050 ((mL_law.2.2.2.2.drop 1050).take 30) = true := by decide +kernel
set_option maxRecDepth 100000 in
theorem oL_36 : x_okL mL_law 1080 ((mL_law.2.2.2.2.drop 1080).take 30) = true := by decide +kernel
set_option maxRecDepth 100000 in
theorem oL_37 : x_okL mL_law 1110 ((mL_law.2.2.2.2.drop 1110).take 30) = true := by decide +kernel
set_option maxRecDepth 100000 in
theorem oL_38 : x_okL mL_law 1140 ((mL_law.2.2.2.2.drop 1140).take 30) = true := by decide +kernel
set_option maxRecDepth 100000 in
theorem oL_39 : x_okL mL_law 1170 ((mL_law.2.2.2.2.drop 1170).take 30) = true := by decide +kernel
end
section
set_option maxRecDepth 100000 in
theorem oL_40 : x_okL mL_law 1200 ((mL_law.2.2.2.2.drop 1200).take 30) = true := by decide +kernel
set_option maxRecDepth 100000 in
theorem oL_41 : x_okL mL_law 1230 ((mL_law.2.2.2.2.drop 1230).take 30) = true := by decide +kernel
set_option maxRecDepth 100000 in
theorem oL_42 : x_okL mL_law 1260 ((mL_law.2.2.2.2.drop 1260).take 30) = true := by decide +kernel
set_option maxRecDepth 100000 in
theorem oL_43 : x_okL mL_law 1290 ((mL_law.2.2.2.2.drop 1290).take 30) = true := by decide +kernel
set_option maxRecDepth 100000 in
theorem oL_44 : x_okL mL_law 1320 ((mL_law.2.2.2.2.drop 1320).take 30) = true := by decide +kernel
set_option maxRecDepth 100000 in
theorem oL_45 : x_okL mL_law 1350 ((mL_law.2.2.2.2.drop 1350).take 30) = true := by decide +kernel
set_option maxRecDepth 100000 in
theorem oL_46 : x_okL mL_law 1380 ((mL_law.2.2.2.2.drop 1380).take 30) = true := by decide +kernel
set_option maxRecDepth 100000 in
theorem oL_47 : x_okL mL_law 1410 ((mL_law.2.2.2.2.drop 1410).take 30) = true := by decide +kernel
set_option maxRecDepth 100000 in
theorem oL_48 : x_okL mL_law 1440 ((mL_law.2.2.2.2.drop 1440).take 30) = true := by decide +kernel
end
section
set_option maxRecDepth 100000 in
theorem oL_len : mL_law.2.2.2.2.length = 1470 := by decide +kernel
set_option maxRecDepth 100000 in
theorem oL_at {pc : Nat} {e : XE} (h : mL_law.2.2.2.2[pc]? = some e) : x_okE mL_law pc e = true := by
  have hl : pc < 1470 := by rw [← oL_len]; exact (List.getElem?_eq_some_iff.mp h).1
  have key : ∀ j i : Nat, pc = 30 * j + i → i < 30 → x_okL mL_law (30 * j) ((mL_law.2.2.2.2.drop (30 * j)).take 30) = true → x_okE mL_law pc e = true := by
    intro j i hp hi ho
    have h2 := x_okL_at _ (30 * j) i e ho (by rw [List.getElem?_take_of_lt hi, List.getElem?_drop, ← hp]; exact h)
    rw [← hp] at h2
    exact h2
  by_cases h0 : pc < 30
  · exact key 0 (pc - 0) (by omega) (by omega) oL_0
  by_cases h1 : pc < 60
  · exact key 1 (pc - 30) (by omega) (by omega) oL_1
  by_cases h2 : pc < 90
  · exact key 2 (pc - 60) (by omega) (by omega) oL_2
  by_cases h3 : pc < 120
  · exact key 3 (pc - 90) (by omega) (by omega) oL_3
  by_cases h4 : pc < 150
  · exact key 4 (pc - 120) (by omega) (by omega) oL_4
  by_cases h5 : pc < 180
  · exact key 5 (pc - 150) (by omega) (by omega) oL_5
  by_cases h6 : pc < 210
  · exact key 6 (pc - 180) (by omega) (by omega) oL_6
  by_cases h7 : pc < 240
  · exact key 7 (pc - 210) (by omega) (by omega) oL_7
  by_cases h8 : pc < 270
  · exact key 8 (pc - 240) (by omega) (by omega) oL_8
  by_cases h9 : pc < 300
  · exact key 9 (pc - 270) (by omega) (by omega) oL_9
  by_cases h10 : pc < 330
  · exact key 10 (pc - 300) (by omega) (by omega) oL_10
  by_cases h11 : pc < 360
  · exact key 11 (pc - 330) (by omega) (by omega) oL_11
  by_cases h12 : pc < 390
  · exact key 12 (pc - 360) (by omega) (by omega) oL_12
  by_cases h13 : pc < 420
  · exact key 13 (pc - 390) (by omega) (by omega) oL_13
  by_cases h14 : pc < 450
  · exact key 14 (pc - 420) (by omega) (by omega) oL_14
  by_cases h15 : pc < 480
  · exact key 15 (pc - 450) (by omega) (by omega) oL_15
  by_cases h16 : pc < 510
  · exact key 16 (pc - 480) (by omega) (by omega) oL_16
  by_cases h17 : pc < 540
  · exact key 17 (pc - 510) (by omega) (by omega) oL_17
  by_cases h18 : pc < 570
  · exact key 18 (pc - 540) (by omega) (by omega) oL_18
  by_cases h19 : pc < 600
  · exact key 19 (pc - 570) (by omega) (by omega) oL_19
  by_cases h20 : pc < 630
  · exact key 20 (pc - 600) (by omega) (by omega) oL_20
  by_cases h21 : pc < 660
  · exact key 21 (pc - 630) (by omega) (by omega) oL_21
  by_cases h22 : pc < 690
  · exact key 22 (pc - 660) (by omega) (by omega) oL_22
  by_cases h23 : pc < 720
  · exact key 23 (pc - 690) (by omega) (by omega) oL_23
  by_cases h24 : pc < 750
  · exact key 24 (pc - 720) (by omega) (by omega) oL_24
  by_cases h25 : pc < 780
  · exact key 25 (pc - 750) (by omega) (by omega) oL_25
  by_cases h26 : pc < 810
  · exact key 26 (pc - 780) (by omega) (by omega) oL_26
  by_cases h27 : pc < 840
  · exact key 27 (pc - 810) (by omega) (by omega) oL_27
  by_cases h28 : pc < 870
  · exact key 28 (pc - 840) (by omega) (by omega) oL_28
  by_cases h29 : pc < 900
  · exact key 29 (pc - 870) (by omega) (by omega) oL_29
  by_cases h30 : pc < 930
  · exact key 30 (pc - 900) (by omega) (by omega) oL_30
  by_cases h31 : pc < 960
  · exact key 31 (pc - 930) (by omega) (by omega) oL_31
  by_cases h32 : pc < 990
  · exact key 32 (pc - 960) (by omega) (by omega) oL_32
  by_cases h33 : pc < 1020
  · exact key 33 (pc - 990) (by omega) (by omega) oL_33
  by_cases h34 : pc < 1050
  · exact key 34 (pc - 1020) (by omega) (by omega) oL_34
  by_cases h35 : pc < 1080
  · exact key 35 (pc - 1050) (by omega) (by omega) oL_35
  by_cases h36 : pc < 1110
  · exact key 36 (pc - 1080) (by omega) (by omega) oL_36
  by_cases h37 : pc < 1140
  · exact key 37 (pc - 1110) (by omega) (by omega) oL_37
  by_cases h38 : pc < 1170
  · exact key 38 (pc - 1140) (by omega) (by omega) oL_38
  by_cases h39 : pc < 1200
  · exact key 39 (pc - 1170) (by omega) (by omega) oL_39
  by_cases h40 : pc < 1230
  · exact key 40 (pc - 1200) (by omega) (by omega) oL_40
  by_cases h41 : pc < 1260
  · exact key 41 (pc - 1230) (by omega) (by omega) oL_41
  by_cases h42 : pc < 1290
  · exact key 42 (pc - 1260) (by omega) (by omega) oL_42
  by_cases h43 : pc < 1320
  · exact key 43 (pc - 1290) (by omega) (by omega) oL_43
  by_cases h44 : pc < 1350
  · exact key 44 (pc - 1320) (by omega) (by omega) oL_44
  by_cases h45 : pc < 1380
  · exact key 45 (pc - 1350) (by omega) (by omega) oL_45
  by_cases h46 : pc < 1410
  · exact key 46 (pc - 1380) (by omega) (by omega) oL_46
  by_cases h47 : pc < 1440
  · exact key 47 (pc - 1410) (by omega) (by omega) oL_47
  by_cases h48 : pc < 1470
  · exact key 48 (pc - 1440) (by omega) (by omega) oL_48
  exact absurd hl (by omega)
end
section
/-! the abstract heap on the machine's heap: cell i lies at z + i; two arrays that nobody writes lie below (the script, LETTERS) -/
abbrev XG : Type := Nat × Nat × Nat × (Nat → ClassId)
def x_ad (g : XG) (i : Nat) : Nat := if i < 1000 then g.1 + i else if i = 1000 then g.2.1 else g.2.2.1
def x_cv (g : XG) (v : Value) : Value := match v with
  | .ref i => .ref (x_ad g i)
  | .int x => .int x
  | .long x => .long x
  | .float x => .float x
  | .double x => .double x
  | .null => .null
  | .retAddr x => .retAddr x
def x_ce (g : XG) (e : va_E) : va_E := match e with
  | .inl (t, n, .inl f) => .inl (g.2.2.2 t, n, .inl f)
  | .inl (t, n, .inr (.inl f)) => .inl (g.2.2.2 t, n, .inr (.inl f))
  | .inl (t, n, .inr (.inr (.inl f))) => .inl (g.2.2.2 t, n, .inr (.inr (.inl f)))
  | .inl (t, n, .inr (.inr (.inr (.inl f)))) => .inl (g.2.2.2 t, n, .inr (.inr (.inr (.inl f))))
  | .inl (t, n, .inr (.inr (.inr (.inr f)))) => .inl (g.2.2.2 t, n, .inr (.inr (.inr (.inr (fun j => (f j).map (x_ad g))))))
  | .inr (c, fs) => .inr (c, fs.map (x_cv g))
def x_W (g : XG) (h : XH) : va_W := h.mapIdx (fun i e => (x_ad g i, x_ce g e))
theorem x_W_at {g : XG} {h : XH} {i : Nat} {e : va_E} (hi : h[i]? = some e) : (x_W g h)[i]? = some (x_ad g i, x_ce g e) := by
  simp [x_W, List.getElem?_mapIdx, hi]
theorem x_W_of {g : XG} {h : XH} {i : Nat} {q : Nat × va_E} (hi : (x_W g h)[i]? = some q) : ∃ e, h[i]? = some e ∧ q = (x_ad g i, x_ce g e) := by
  simp only [x_W, List.getElem?_mapIdx, Option.map_eq_some_iff] at hi
  obtain ⟨e, h1, h2⟩ := hi
  exact ⟨e, h1, h2.symm⟩
theorem x_W_set (g : XG) (h : XH) (i : Nat) (e : va_E) : x_W g (h.set i e) = (x_W g h).set i (x_ad g i, x_ce g e) := by
  apply List.ext_getElem?
  intro k
  simp only [x_W, List.getElem?_mapIdx, List.getElem?_set, List.length_mapIdx]
  by_cases hk : i = k
  · subst hk
    by_cases hl : i < h.length <;> simp [hl]
  · simp [hk]
theorem x_W_app (g : XG) (h : XH) (e : va_E) : x_W g (h ++ [e]) = x_W g h ++ [(x_ad g h.length, x_ce g e)] := by
  simp [x_W, List.mapIdx_append]
theorem x_ad_lt (g : XG) {i : Nat} (h : i < 1000) : x_ad g i = g.1 + i := by simp [x_ad, h]
def x_A (g : XG) : Nat → Prop := fun q => g.1 ≤ q
theorem x_WD (g : XG) (h : XH) (hl : h.length ≤ 1000) : va_D (x_A g) (x_W g h) := by
  refine ⟨fun i j p q hi hj hpq => ?_, fun k q hk => ?_⟩
  · obtain ⟨e1, a1, rfl⟩ := x_W_of hi
    obtain ⟨e2, a2, rfl⟩ := x_W_of hj
    have l1 := (List.getElem?_eq_some_iff.mp a1).1
    have l2 := (List.getElem?_eq_some_iff.mp a2).1
    have h3 : x_ad g i = x_ad g j := hpq
    rw [x_ad_lt g (by omega), x_ad_lt g (by omega)] at h3
    omega
  · obtain ⟨e1, a1, rfl⟩ := x_W_of hk
    have l1 := (List.getElem?_eq_some_iff.mp a1).1
    show g.1 ≤ x_ad g k
    rw [x_ad_lt g (by omega)]
    omega
def x_Wd (D : va_G) (g : XG) (h : XH) (H : Heap) : Prop := H.size = g.1 + h.length ∧ h.length ≤ 1000 ∧ va_P D vwCl (x_W g h) H
def x_tys (g : XG) : List (ClassId × FieldType) := [(g.2.2.2 0, .int), (g.2.2.2 1, .long), (g.2.2.2 2, .object RX2), (g.2.2.2 3, .object RX1), (g.2.2.2 4, .object RX3)]
def x_RO (g : XG) (X : XX) (U : State) (H : Heap) : Prop := va_X g.2.1 X.1 X.2 U H ∧ g.2.1 < g.1 ∧ va_Z RX4 "LETTERS" "[I" (.ref g.2.2.1) (x_A g) U H ∧ va_T .int g.2.2.1 6 (fun j => .int (x_let j)) (x_A g) U H
/-- words that are carried along: links between nest mates, arrays of references -/
def x_NW (U : State) : Prop := (∀ w ∈ lw_nest, va_Nw w U) ∧ va_AO RX2 U ∧ va_AO RX1 U ∧ va_AO RX3 U
theorem x_NW.warm {s U : State} (hW : s.WarmedH U.vm) (h : x_NW s) : x_NW U := by
  obtain ⟨h1, h2, h3, h4⟩ := h
  refine ⟨fun w hw => ?_, h2.moved hW.alike, h3.moved hW.alike, h4.moved hW.alike⟩
  have h5 := h1 w hw
  have h6 := (List.mem_filter.mp hw).2
  cases w <;> first | (simp [x_isN] at h6; done) | exact va_Nw.warmM hW h5
theorem x_RO.moved {g : XG} {X : XX} {u U : State} {H : Heap} (hvm : u.vm.Alike U.vm) (h : x_RO g X u H) : x_RO g X U H :=
  ⟨h.1.moved hvm, h.2.1, h.2.2.1.moved hvm, h.2.2.2.moved hvm⟩
theorem x_RO.kept {g : XG} {X : XX} {U : State} {H H1 : Heap} (h : x_RO g X U H) (hq : ∀ a : Nat, a < H.size → ¬ x_A g a → H1[a]? = H[a]?) : x_RO g X U H1 := by
  obtain ⟨h1, h2, h3, h4⟩ := h
  refine ⟨h1.kept (hq _ ?_ (Nat.not_le.mpr h2)), h2, h3.kept hq, h4.kept hq⟩
  obtain ⟨scr, hs, -⟩ := h1
  exact (Array.getElem?_eq_some_iff.mp hs).1
def x_Pc (D : va_G) (g : XG) (X : XX) (args : List Value) (h : XH) : Array Value → State → Prop := va_Pc (args.map (x_cv g)) (fun U => x_Wd D g h U.heap ∧ va_K D vwCl (x_tys g) U ∧ x_RO g X U U.heap ∧ x_NW U)
def x_Qc (D : va_G) (g : XG) (r : Option Value) (h' : XH) : Array Value → State → Outcome → State → Prop := fun _ st oc t => oc = .returned (r.map (x_cv g)) ∧ x_Wd D g h' t.heap ∧ va_F (x_A g) st t
def x_sse (e : va_E) : Nat := match e with
  | .inl a => a.2.1
  | .inr o => o.2.length
def x_ss (h : XH) : Nat := (h.map x_sse).sum
def x_ws (M : XM) : List Jvm.Cond := .code M.1 M.2.1 M.2.2.1 M.2.2.2.1 :: lw_gd
def x_rm (d mc ms : Nat) : Room := { frames := d + 1, cells := mc, slots := ms, locals := 32 * d + 40 }
theorem x_ss_set {h : XH} {i : Nat} {e e' : va_E} (hi : h[i]? = some e) (hs : x_sse e' = x_sse e) : x_ss (h.set i e') = x_ss h := by
  unfold x_ss
  rw [List.map_set, hs]
  congr 1
  apply List.ext_getElem?
  intro k
  rw [List.getElem?_set]
  by_cases hk : i = k
  · subst hk
    have hl := (List.getElem?_eq_some_iff.mp hi).1
    simp [hl, hi]
    rw [(List.getElem?_eq_some_iff.mp hi).2]
  · simp [hk]
theorem x_ss_app (h : XH) (e : va_E) : x_ss (h ++ [e]) = x_ss h + x_sse e := by
  simp [x_ss]
/-- locals -/
def x_LR (g : XG) (ls : Array Slot) (L : XL) : Prop := ls.size = L.length ∧ lv_wf ls ∧ ∀ (i : Nat) (v : Value), L[i]? = some (some v) → ls[i]? = some (.val (x_cv g v))
theorem x_LR_ld {g : XG} {ls : Array Slot} {L : XL} (h : x_LR g ls L) {i : Nat} {v : Value} (hv : x_ld L i = some v) : ls[i]? = some (.val (x_cv g v)) := by
  unfold x_ld at hv
  split at hv
  · rename_i w hw
    cases hv
    exact h.2.2 i _ hw
  · cases hv
def x_pr (g : XG) (L : XL) : List (Nat × Value) := (List.range L.length).filterMap (fun i => match L[i]? with
  | some (some v) => some (i, x_cv g v)
  | _ => none)
theorem x_pr_in {g : XG} {L : XL} {q : Nat × Value} : q ∈ x_pr g L ↔ ∃ v, L[q.1]? = some (some v) ∧ q.2 = x_cv g v := by
  unfold x_pr
  rw [List.mem_filterMap]
  constructor
  · rintro ⟨i, hi, h⟩
    split at h
    · rename_i v hv
      cases h
      exact ⟨v, hv, rfl⟩
    · cases h
  · rintro ⟨v, hv, h2⟩
    refine ⟨q.1, List.mem_range.mpr (List.getElem?_eq_some_iff.mp hv).1, ?_⟩
    rw [hv]
    simp only
    rw [← h2]
theorem x_LR_has {g : XG} {ls : Array Slot} {L : XL} (h : x_LR g ls L) : lv_has ls L.length (x_pr g L) := by
  refine ⟨h.1, h.2.1, fun q hq => ?_⟩
  obtain ⟨v, h1, h2⟩ := x_pr_in.mp hq
  rw [h2]
  exact h.2.2 _ v h1
theorem x_cat (g : XG) (v : Value) : (x_cv g v).category = v.category := by cases v <;> rfl
theorem x_clr_len (L : XL) (i : Nat) : (x_clr L i).length = L.length := by
  unfold x_clr
  split
  · rfl
  · split
    · split <;> simp
    · rfl
theorem x_clr_at {L : XL} {i k : Nat} {v : Value} (h : (x_clr L i)[k]? = some (some v)) : L[k]? = some (some v) ∧ ¬ (k + 1 = i ∧ v.category = 2) := by
  unfold x_clr at h
  split at h
  · exact ⟨h, fun q => by omega⟩
  · rename_i i
    split at h
    · rename_i w hw
      split at h
      · rename_i hc
        rw [List.getElem?_set] at h
        split at h
        · split at h <;> cases h
        · rename_i hk
          exact ⟨h, fun q => hk (by omega)⟩
      · rename_i hc
        refine ⟨h, fun q => ?_⟩
        have : k = i := by omega
        subst this
        rw [hw] at h
        cases h
        exact hc q.2
    · rename_i hw
      refine ⟨h, fun q => ?_⟩
      have : k = i := by omega
      subst this
      exact hw v h
theorem x_LR_st1 {g : XG} {ls : Array Slot} {L L' : XL} {i : Nat} {v : Value} (hs : x_st1 L i v = some L') (ls' : Array Slot) (h : lv_has ls' L.length ((i, x_cv g v) :: (x_pr g L).filter (fun q => !(q.1 == i) && !(q.1 + 1 == i && q.2.category == 2)))) : x_LR g ls' L' := by
  unfold x_st1 at hs
  split at hs
  · rename_i hl
    cases hs
    refine ⟨by rw [h.1]; simp [x_clr_len], h.2.1, fun k w hk => ?_⟩
    rw [List.getElem?_set] at hk
    split at hk
    · rename_i e
      subst e
      split at hk
      · cases hk
        exact h.2.2 (i, x_cv g v) List.mem_cons_self
      · cases hk
    · rename_i e
      obtain ⟨h1, h2⟩ := x_clr_at hk
      refine h.2.2 (k, x_cv g w) (List.mem_cons_of_mem _ (List.mem_filter.mpr ⟨x_pr_in.mpr ⟨w, h1, rfl⟩, ?_⟩))
      simp only [x_cat, Bool.and_eq_true, Bool.not_eq_true', beq_eq_false_iff_ne, ne_eq]
      refine ⟨fun q => e q.symm, ?_⟩
      by_cases hk1 : k + 1 = i
      · have : ¬ w.category = 2 := fun z => h2 ⟨hk1, z⟩
        simp [this]
      · simp [hk1]
  · cases hs
theorem x_LR_st2 {g : XG} {ls : Array Slot} {L L' : XL} {i : Nat} {v : Value} (hs : x_st2 L i v = some L') (ls' : Array Slot) (h : lv_has ls' L.length ((i, x_cv g v) :: (x_pr g L).filter (fun q => !(q.1 == i) && (!(q.1 == i + 1) && !(q.1 + 1 == i && q.2.category == 2))))) : x_LR g ls' L' := by
  unfold x_st2 at hs
  split at hs
  · rename_i hl
    cases hs
    refine ⟨by rw [h.1]; simp [x_clr_len], h.2.1, fun k w hk => ?_⟩
    rw [List.getElem?_set] at hk
    split at hk
    · rename_i e
      subst e
      split at hk
      · cases hk
        exact h.2.2 (i, x_cv g v) List.mem_cons_self
      · cases hk
    · rename_i e
      rw [List.getElem?_set] at hk
      split at hk
      · split at hk <;> cases hk
      · rename_i e2
        obtain ⟨h1, h2⟩ := x_clr_at hk
        refine h.2.2 (k, x_cv g w) (List.mem_cons_of_mem _ (List.mem_filter.mpr ⟨x_pr_in.mpr ⟨w, h1, rfl⟩, ?_⟩))
        simp only [x_cat, Bool.and_eq_true, Bool.not_eq_true', beq_eq_false_iff_ne, ne_eq]
        refine ⟨fun q => e q.symm, fun q => e2 q.symm, ?_⟩
        by_cases hk1 : k + 1 = i
        · have : ¬ w.category = 2 := fun z => h2 ⟨hk1, z⟩
          simp [this]
        · simp [hk1]
  · cases hs
end
section
/-! rows of the kit once more, over the abstract heap, with the heap's size; classes' words -/
theorem x_in {D : va_G} {g : XG} {h : XH} {H : Heap} (hW : x_Wd D g h H) {a : Nat} {e : va_E} (ha : h[a]? = some e) : x_A g (x_ad g a) ∧ x_ad g a < H.size ∧ va_at D vwCl (x_ad g a, x_ce g e) H := by
  have h1 := hW.2.2 a _ (x_W_at (g := g) ha)
  exact ⟨(x_WD g h hW.2.1).2 a _ (x_W_at ha), h1.lt, h1⟩
theorem x_Wd.set {D : va_G} {g : XG} {h : XH} {H H1 : Heap} (hW : x_Wd D g h H) {a : Nat} {e0 e : va_E} (ha : h[a]? = some e0) (he : va_at D vwCl (x_ad g a, x_ce g e) H1) (z : H1.size = H.size) (oq : ∀ q : Nat, q ≠ x_ad g a → H1[q]? = H[q]?) : x_Wd D g (h.set a e) H1 := by
  refine ⟨by rw [z, hW.1, List.length_set], by rw [List.length_set]; exact hW.2.1, ?_⟩
  rw [x_W_set]
  exact hW.2.2.set (x_WD g h hW.2.1) (x_W_at ha) he oq
theorem x_Wd.push {D : va_G} {g : XG} {h : XH} {H H1 : Heap} (hW : x_Wd D g h H) {e : va_E} (hl : h.length < 1000) (he : va_at D vwCl (H.size, x_ce g e) H1) (z : H1.size = H.size + 1) (oq : ∀ q : Nat, q < H.size → H1[q]? = H[q]?) : x_Wd D g (h ++ [e]) H1 := by
  refine ⟨by rw [z, hW.1, List.length_append]; rfl, by rw [List.length_append]; exact hl, ?_⟩
  rw [x_W_app]
  refine (hW.2.2.kept (fun k q hk => oq q.1 ((hW.2.2 k q hk).lt))).app (fun k q hk => ?_)
  have hz : k < 1 := (List.getElem?_eq_some_iff.mp hk).1
  rw [show k = 0 by omega] at hk
  cases hk
  have e1 : x_ad g h.length = H.size := by rw [x_ad_lt g hl, hW.1]
  rw [e1]
  exact he
theorem x_S_push {A : Nat → Prop} {H0 H H1 : Heap} {locs : List Loc} (hS : va_S A H0 H locs) (z : H1.size = H.size + 1) (oq : ∀ q : Nat, q < H.size → H1[q]? = H[q]?) : va_S A H0 H1 locs :=
  ⟨Nat.le_trans hS.1 (by omega), fun x h1 h2 => (oq x (Nat.lt_of_lt_of_le h1 hS.1)).trans (hS.2.1 x h1 h2), hS.2.2⟩
section XRows
variable {p : Program} {l : Launch} {e : Env} {R : Room} {s : State} {m : MethodId} {args : Array Value} {below : List Frame} {meth : Method} {c : Code} {H : Heap} {locs : List Loc} {cells slots : Nat} {Q : State → Prop}
variable {cc : ByteArray} {pc : Nat} {ls : Array Slot} {rest : List Value} {D : va_G} {g : XG} {h : XH} {H0 : Heap}
theorem x_Wiast (hexec : p.tables.exec = Jvm.exec) (hb : c.code = cc) (hK : va_K D vwCl (x_tys g) s) (hW : x_Wd D g h H) (hS : va_S (x_A g) H0 H locs) {a n : Nat} {f : Nat → Int32} {i x : Int32} (ha : h[a]? = some (.inl (0, n, .inl f))) (hin : ¬ (i < 0 ∨ n ≤ i.toNatClampNeg)) (hdg : decode cc pc = .ok (.iastore, 1))
    (kk : ∀ (H1 : Heap) (locs1 : List Loc), x_Wd D g (h.set a (.inl (0, n, .inl (upd f i.toNatClampNeg x)))) H1 → va_S (x_A g) H0 H1 locs1 → W p l e R s m args below meth c H1 locs1 cells slots Q (F0 m (pc + 1) ls rest)) : W p l e R s m args below meth c H locs cells slots Q (F0 m pc ls (.int x :: .int i :: .ref (x_ad g a) :: rest)) := by
  obtain ⟨i1, i2, i3⟩ := x_in hW ha
  have hc : H[x_ad g a]? = some (vp_cell (g.2.2.2 0) (n, .inl f)) := i3
  refine W.iast hexec hb hc ((hK.2 0 _ rfl).1 n (fun j => .int (f j))) (fun q => by cases q) (by show ¬ (i < 0 ∨ (arrV _ _ _).slots.size ≤ _); rw [arrV_size]; exact hin) rfl rfl hdg fun H1 e z oq => ?_
  refine kk H1 _ (hW.set ha ?_ z oq) (hS.put z oq i1)
  show H1[x_ad g a]? = some (vp_cell _ _)
  rw [e]
  rw [vp_cell_i, vp_cell_i, arrV_store]
  congr 2
  funext q
  by_cases hq : q = i.toNatClampNeg
  · subst hq
    simp [updV, upd]
  · simp [updV, upd, hq]
theorem x_Wlast (hexec : p.tables.exec = Jvm.exec) (hb : c.code = cc) (hK : va_K D vwCl (x_tys g) s) (hW : x_Wd D g h H) (hS : va_S (x_A g) H0 H locs) {a n : Nat} {f : Nat → Int64} {i : Int32} {x : Int64} (ha : h[a]? = some (.inl (1, n, .inr (.inl f)))) (hin : ¬ (i < 0 ∨ n ≤ i.toNatClampNeg)) (hdg : decode cc pc = .ok (.lastore, 1))
    (kk : ∀ (H1 : Heap) (locs1 : List Loc), x_Wd D g (h.set a (.inl (1, n, .inr (.inl (vp_updL f i.toNatClampNeg x))))) H1 → va_S (x_A g) H0 H1 locs1 → W p l e R s m args below meth c H1 locs1 cells slots Q (F0 m (pc + 1) ls rest)) : W p l e R s m args below meth c H locs cells slots Q (F0 m pc ls (.long x :: .int i :: .ref (x_ad g a) :: rest)) := by
  obtain ⟨i1, i2, i3⟩ := x_in hW ha
  have hc : H[x_ad g a]? = some (vp_cell (g.2.2.2 1) (n, .inr (.inl f))) := i3
  refine W.last hexec hb hc ((hK.2 1 _ rfl).1 n (fun j => .long (f j))) (fun q => by cases q) (by show ¬ (i < 0 ∨ (arrV _ _ _).slots.size ≤ _); rw [arrV_size]; exact hin) rfl rfl hdg fun H1 e z oq => ?_
  refine kk H1 _ (hW.set ha ?_ z oq) (hS.put z oq i1)
  show H1[x_ad g a]? = some (vp_cell _ _)
  rw [e]
  rw [vp_cell_l, vp_cell_l, arrV_store]
  congr 2
  funext q
  by_cases hq : q = i.toNatClampNeg
  · subst hq
    simp [updV, vp_updL]
  · simp [updV, vp_updL, hq]
theorem x_Waast (hexec : p.tables.exec = Jvm.exec) (hb : c.code = cc) (hK : va_K D vwCl (x_tys g) s) (hW : x_Wd D g h H) (hS : va_S (x_A g) H0 H locs) {a n t v ci : Nat} {r : vw_C} {vs : List Value} {f : Nat → Option Nat} {i : Int32} (ha : h[a]? = some (.inl (t, n, .inr (.inr (.inr (.inr f)))))) (ht : (x_tys g)[t]? = some (g.2.2.2 t, .object r.1)) (hv : h[v]? = some (.inr (ci, vs))) (hc : vwCl[ci]? = some r) (hin : ¬ (i < 0 ∨ n ≤ i.toNatClampNeg)) (hdg : decode cc pc = .ok (.aastore, 1))
    (kk : ∀ (H1 : Heap) (locs1 : List Loc), x_Wd D g (h.set a (.inl (t, n, .inr (.inr (.inr (.inr (va_up f i.toNatClampNeg (some v)))))))) H1 → va_S (x_A g) H0 H1 locs1 → W p l e R s m args below meth c H1 locs1 cells slots Q (F0 m (pc + 1) ls rest)) : W p l e R s m args below meth c H locs cells slots Q (F0 m pc ls (.ref (x_ad g v) :: .int i :: .ref (x_ad g a) :: rest)) := by
  obtain ⟨i1, i2, i3⟩ := x_in hW ha
  have hcA : H[x_ad g a]? = some (vp_cell (g.2.2.2 t) (n, .inr (.inr (.inr (.inr (fun j => (f j).map (x_ad g))))))) := i3
  have hlt : i.toNatClampNeg < n := Nat.not_le.mp fun q => hin (Or.inr q)
  have h0 : ¬ i < 0 := fun q => hin (Or.inl q)
  obtain ⟨-, -, r', hr', cellV, g1, g2, g3, -⟩ := x_in hW hv
  have hcls := (hK.1 ci r hc).2
  obtain ⟨kA, comp, k1, k2, k3, -⟩ := (hK.2 t _ ht).2
  have hcomp : comp = D.1 ci := Option.some.inj (k3.symm.trans hcls.1)
  subst hcomp
  obtain ⟨kC, hkC, -⟩ := hcls.2
  refine W.aast hexec hb hcA (fun q h => by cases h) (fun h => by cases h) k1 k2 rfl hkC ⟨h0, by show _ < (arrV _ _ _).slots.size; rw [arrV_size]; exact hlt⟩ g1 (fun q h => by rw [g3] at h; cases h) (by rw [g2]; exact hkC) (by rw [g2]; exact va_assign hcls) rfl rfl hdg fun H1 e z oq => ?_
  refine kk H1 _ (hW.set ha ?_ z oq) (hS.put z oq i1)
  show H1[x_ad g a]? = some (vp_cell _ _)
  rw [e]
  rw [vp_cell_q, vp_cell_q, arrV_store]
  congr 2
  funext q
  by_cases hq : q = i.toNatClampNeg
  · subst hq
    simp [updV, va_up, va_rf]
  · simp [updV, va_up, hq]
theorem x_Wput (hexec : p.tables.exec = Jvm.exec) (hb : c.code = cc) {own C : String} {T : u_T} {N ci index : Nat} {Ts : List Jvm.Cond} (hts : ∀ w ∈ Ts, w.before args s = true) (hin : ∀ w ∈ u_ws C T N, w ∈ Ts) (ty0 : Nat → FieldType) (hty : ∀ k, k < N → parseFieldDescriptor (T k).2.2.1 = some (ty0 k)) (hnm : ∀ a, a < N → ∀ b, b < N → a ≠ b → (T a).2.1 ≠ (T b).2.1) (hown : s.vm.findClass own = some m.cls) (hK : va_K D vwCl (x_tys g) s) (hW : x_Wd D g h H) (hS0 : va_S (x_A g) H0 H locs) {a : Nat} {fs : List Value} (he : h[a]? = some (.inr (ci, fs))) (hc : vwCl[ci]? = some (C, T, N)) (k : Nat) (hk : k < N) (hlink : (Jvm.Cond.fieldLink own index (T k).1 (T k).2.1 (T k).2.2.1).before args s = true) (hfin : (T k).2.2.2 = true → meth.name = "<init>" ∧ (T k).1 = own) {v : Value} (hn : narrow (ty0 k) v = v) (hfit : fits (ty0 k) v = true) {v0 : Value} (hv0 : v = x_cv g v0) (hl : k < fs.length) (hdg : decode cc pc = .ok (.putfield index, 3))
    (kk : ∀ (H1 : Heap) (locs1 : List Loc), x_Wd D g (h.set a (.inr (ci, fs.set k v0))) H1 → va_S (x_A g) H0 H1 locs1 → W p l e R s m args below meth c H1 locs1 cells slots Q (F0 m (pc + 3) ls rest)) : W p l e R s m args below meth c H locs cells slots Q (F0 m pc ls (v :: .ref (x_ad g a) :: rest)) := by
  obtain ⟨i1, i2, i3⟩ := x_in hW he
  have hap := va_apart (own := own) hts hin ty0 hty hnm hK hc
  obtain ⟨r, h1, cell, q1, q2, q3, q4⟩ := i3
  have hr : r = (C, T, N) := Option.some.inj (h1.symm.trans hc)
  subst hr
  obtain ⟨hS, hfc, kC, hkC, hkind⟩ := hK.1 ci _ hc
  obtain ⟨cf, kf, fi, f, hi, hsl⟩ := hS k hk
  have hlay := hts _ (hin _ (u_in_lay hk))
  have hd := hty k hk
  unfold u_lay at hlay
  have hst := (u_facts hfc hkC (u_lays hts hin hk) hi).1
  have hend : ∀ H' : Heap, H'[x_ad g a]? = some (cell.setSlot f.slot v) → H'.size = H.size → (∀ q : Nat, q ≠ x_ad g a → H'[q]? = H[q]?) → x_Wd D g (h.set a (.inr (ci, fs.set k v0))) H' := by
    intro H' e1 e2 e3
    rw [hsl] at e1
    refine hW.set he ?_ e2 e3
    refine ⟨_, hc, t_OB.to (V := updV (vp_V (fs.map (x_cv g))) k v) ⟨_, e1, q2, q3, t_set q4 hap hk v⟩ (fun j _ => ?_)⟩
    rw [vp_updV_set (by simpa using hl) v j, List.map_set, hv0]
  by_cases hf : (T k).2.2.2 = true
  · rw [if_pos hf] at hlay
    obtain ⟨hin2, hdecl⟩ := hfin hf
    have hcf : m.cls = cf := by
      obtain ⟨_, _, c', _, _, _, -, -, hf', -, -, -, hown2, -⟩ := Cond.laysFinal_spec hlay
      have e1 : c' = cf := by have := hi.symm.trans hf'; simp at this; exact this.1.symm
      rw [hdecl] at hown2
      rw [← e1]; exact Option.some.inj (hown.symm.trans hown2)
    have h6 := u_fits hfc hkC hkind (Or.inr hlay) hi hd hn hfit
    exact W.putFinK hexec hb hown hlink hi hst hcf hin2 (by rw [q2]; exact h6) q1 q3 (by rw [hsl]; exact k2_hasslot (q4 k hk)) rfl rfl hdg fun H' e1 e2 e3 => kk H' _ (hend H' e1 e2 e3) (hS0.put e2 e3 i1)
  · rw [if_neg hf] at hlay
    have h6 := u_store hfc hkC hkind hlay hi hd hn hfit
    exact W.putK hexec hb (f := f) ⟨hown, hlink, ⟨_, _, _, hi⟩, hst⟩ (by rw [q2]; exact h6) q1 q3 (by rw [hsl]; exact k2_hasslot (q4 k hk)) rfl rfl hdg fun H' e1 e2 e3 => kk H' _ (hend H' e1 e2 e3) (hS0.put e2 e3 i1)
theorem x_Wnew (hexec : p.tables.exec = Jvm.exec) (hb : c.code = cc) {own C : String} {T : u_T} {N ci index : Nat} {Ts : List Jvm.Cond} (hts : ∀ w ∈ Ts, w.before args s = true) (hin : ∀ w ∈ u_ws C T N, w ∈ Ts) (ty : Nat → FieldType) (hty : ∀ k, k < N → parseFieldDescriptor (T k).2.2.1 = some (ty k)) (hown : s.vm.findClass own = some m.cls) (hcl : (Jvm.Cond.classLink own index C).before args s = true) (hinst : (Jvm.Cond.instantiable C N).before args s = true) (hini : (Jvm.Cond.initialized C).before args s = true)
    (hK : va_K D vwCl (x_tys g) s) (hW : x_Wd D g h H) (hS : va_S (x_A g) H0 H locs) (hc : vwCl[ci]? = some (C, T, N)) {fs : List Value} (hfs : ∀ j, j < N → defaultValue (ty j) = vp_V (fs.map (x_cv g)) j) (hlen : h.length < 1000) (hcells : cells + 1 ≤ R.cells) (hslots : slots + N ≤ R.slots) (hdg : decode cc pc = .ok (.new index, 3))
    (kk : ∀ (H1 : Heap), x_Wd D g (h ++ [.inr (ci, fs)]) H1 → va_S (x_A g) H0 H1 locs → W p l e R s m args below meth c H1 locs (cells + 1) (slots + N) Q (F0 m (pc + 3) ls (.ref (x_ad g h.length) :: rest))) : W p l e R s m args below meth c H locs cells slots Q (F0 m pc ls rest) := by
  have hKn := hK.1 ci _ hc
  have e1 : x_ad g h.length = H.size := by rw [x_ad_lt g hlen, hW.1]
  rw [e1] at kk
  refine W.newcK hexec hb hown hcl hinst hini rfl hdg hcells hslots hKn.2.1 rfl fun H1 kC hkC e1 z1 o1 => ?_
  exact kk H1 (hW.push hlen ⟨_, hc, (u_born ty hts hin hKn hkC e1 hty).to hfs⟩ z1 o1) (x_S_push hS z1 o1)
theorem x_Wnewa (hexec : p.tables.exec = Jvm.exec) (hb : c.code = cc) {atype : ArrayType} (harr : (Jvm.Cond.arrayClass (newarray.typeOf atype)).before args s = true) {t : Nat} (hK : va_K D vwCl (x_tys g) s) (ht : (x_tys g)[t]? = some (g.2.2.2 t, newarray.typeOf atype)) (hW : x_Wd D g h H) (hS : va_S (x_A g) H0 H locs)
    {n : Int32} {N' : Nat} {a0 : va_E} (ha : va_at D vwCl (H.size, x_ce g a0) = fun H1 => H1[H.size]? = some (arrV (g.2.2.2 t) N' (fun _ => defaultValue (newarray.typeOf atype)))) (hn : ¬ n < 0) (hN : n.toNatClampNeg = N') (hbytes : N' * componentBytes (newarray.typeOf atype) ≤ 536870912) (hlen : h.length < 1000) (hcells : cells + 1 ≤ R.cells) (hslots : slots + N' ≤ R.slots) (hdg : decode cc pc = .ok (.newarray atype, 2))
    (kk : ∀ (H1 : Heap), x_Wd D g (h ++ [a0]) H1 → va_S (x_A g) H0 H1 locs → W p l e R s m args below meth c H1 locs (cells + 1) (slots + N') Q (F0 m (pc + 2) ls (.ref (x_ad g h.length) :: rest))) : W p l e R s m args below meth c H locs cells slots Q (F0 m pc ls (.int n :: rest)) := by
  have e1 : x_ad g h.length = H.size := by rw [x_ad_lt g hlen, hW.1]
  rw [e1] at kk
  refine va_newaK hexec hb harr rfl hdg rfl hn hN hbytes hcells hslots rfl fun H1 cA e1 z1 o1 hAr hNm => ?_
  have hcA : cA = g.2.2.2 t := by
    have h9 := (hK.2 t _ ht).2
    have h8 : s.vm.findClass ("[" ++ (newarray.typeOf atype).toString) = some (g.2.2.2 t) := by cases atype <;> exact h9
    exact Option.some.inj (hNm.symm.trans h8)
  subst hcA
  exact kk H1 (hW.push hlen (by rw [ha]; exact e1) z1 o1) (x_S_push hS z1 o1)
theorem x_Wnewq (hexec : p.tables.exec = Jvm.exec) (hb : c.code = cc) {own C : String} {index t : Nat} (hown : s.vm.findClass own = some m.cls) (hclink : (Jvm.Cond.classLink own index C).before args s = true) (hover : va_AO C s) (hK : va_K D vwCl (x_tys g) s) (ht : (x_tys g)[t]? = some (g.2.2.2 t, .object C)) (hW : x_Wd D g h H) (hS : va_S (x_A g) H0 H locs)
    {n : Int32} {N' : Nat} (hn : ¬ n < 0) (hN : n.toNatClampNeg = N') (hbytes : N' * 4 ≤ 536870912) (hlen : h.length < 1000) (hcells : cells + 1 ≤ R.cells) (hslots : slots + N' ≤ R.slots) (hdg : decode cc pc = .ok (.anewarray index, 3))
    (kk : ∀ (H1 : Heap), x_Wd D g (h ++ [.inl (t, N', .inr (.inr (.inr (.inr (fun _ => none)))))]) H1 → va_S (x_A g) H0 H1 locs → W p l e R s m args below meth c H1 locs (cells + 1) (slots + N') Q (F0 m (pc + 3) ls (.ref (x_ad g h.length) :: rest))) : W p l e R s m args below meth c H locs cells slots Q (F0 m pc ls (.int n :: rest)) := by
  have e0 : x_ad g h.length = H.size := by rw [x_ad_lt g hlen, hW.1]
  rw [e0] at kk
  subst hN
  refine W.anew hexec hb hown hclink (va_AO.use hover) rfl hdg rfl hn hbytes hcells hslots fun cA kA comp f1 f2 f3 f4 => ?_
  have hcA : cA = g.2.2.2 t := by
    obtain ⟨kA2, comp2, -, -, -, h9⟩ := (hK.2 t _ ht).2
    exact Option.some.inj (f1.symm.trans h9)
  subst hcA
  generalize hH1 : H.push ({ cls := g.2.2.2 t, slots := Array.replicate n.toNatClampNeg .null, vm := .none } : Cell) = H1
  have z1 : H1.size = H.size + 1 := by rw [← hH1, Array.size_push]
  have e1 : H1[H.size]? = some (arrV (g.2.2.2 t) n.toNatClampNeg (fun _ => .null)) := by rw [← hH1, Array.getElem?_push_size, ← arrV_new]
  have o1 : ∀ q : Nat, q < H.size → H1[q]? = H[q]? := fun q hq => by rw [← hH1, Array.getElem?_push, if_neg (Nat.ne_of_lt hq)]
  refine kk H1 (hW.push hlen ?_ z1 o1) (x_S_push hS z1 o1)
  show H1[H.size]? = some (vp_cell _ _)
  rw [vp_cell_q]
  exact e1
theorem x_Wcopy (hexec : p.tables.exec = Jvm.exec) (hb : c.code = cc) (hml : c.maxLocals = ls.size) {own : String} {index : Nat} (hown : s.vm.findClass own = some m.cls) (hlink : (Jvm.Cond.methodLink own index arraycopyName).before args s = true) (hnat : (Jvm.Cond.native arraycopyName).before args s = true) (hstat : (Jvm.Cond.static arraycopyName).before args s = true) (hini : (Jvm.Cond.initialized "java/lang/System").before args s = true)
    (hK : va_K D vwCl (x_tys g) s) (hW : x_Wd D g h H) (hS : va_S (x_A g) H0 H locs) {a0 a1 n0 n1 : Nat} {f0 f1 : Nat → Int32} (ha0 : h[a0]? = some (.inl (0, n0, .inl f0))) (ha1 : h[a1]? = some (.inl (0, n1, .inl f1)))
    {sp dp n : Int32} (h1 : ¬ sp < 0) (h2 : ¬ dp < 0) (h3 : ¬ n < 0) (h4 : sp.toNatClampNeg + n.toNatClampNeg ≤ n0) (h5 : dp.toNatClampNeg + n.toNatClampNeg ≤ n1)
    (hframes : 1 ≤ R.frames) (hlocals : (rest.map fun v => v.category).sum + (nativeFrameWords "java/lang/System" "arraycopy" 5 + 11) ≤ R.locals) (hdg : decode cc pc = .ok (.invokestatic index, 3))
    (kk : ∀ (H1 : Heap) (locs1 : List Loc), x_Wd D g (h.set a1 (.inl (0, n1, .inl (va_cpy f0 f1 sp.toNatClampNeg dp.toNatClampNeg n.toNatClampNeg)))) H1 → va_S (x_A g) H0 H1 locs1 → W p l e R s m args below meth c H1 locs1 cells slots Q (F0 m (pc + 3) ls rest)) : W p l e R s m args below meth c H locs cells slots Q (F0 m pc ls (.int n :: .int dp :: .ref (x_ad g a1) :: .int sp :: .ref (x_ad g a0) :: rest)) := by
  have nn : ∀ z : Int32, ¬ z < 0 → z.toInt = (z.toNatClampNeg : Int) := by
    intro z hz
    have hz0 : (0 : Int) ≤ z.toInt := by
      have := Int32.not_lt.mp hz
      simpa using Int32.le_iff_toInt_le.mp this
    show z.toInt = ((z.toInt.toNat : Nat) : Int)
    omega
  intro T hT X
  obtain ⟨j1, j2, j3⟩ := x_in hW ha1
  have hc0 : H[x_ad g a0]? = some (vp_cell (g.2.2.2 0) (n0, .inl f0)) := (x_in hW ha0).2.2
  have hc1 : H[x_ad g a1]? = some (vp_cell (g.2.2.2 0) (n1, .inl f1)) := j3
  obtain ⟨-, k0, hk0, cm0, hkk0⟩ := (hK.2 0 _ rfl).1 n0 (fun j => .int (f0 j))
  obtain ⟨-, k1, hk1, cm1, hkk1⟩ := (hK.2 0 _ rfl).1 n1 (fun j => .int (f1 j))
  obtain ⟨vm', X', step⟩ := X.arraycopy hexec hown hlink hnat hstat hini (src := x_ad g a0) (dst := x_ad g a1) (cs := vp_cell (g.2.2.2 0) (n0, .inl f0)) (cd := vp_cell (g.2.2.2 0) (n1, .inl f1)) (srcPos := sp) (destPos := dp) (n := n) (by rw [hT]; exact hc0) (by rw [hT]; exact hc1)
    (fun _ h => by cases h) (fun _ h => by cases h) (fun h => by cases h) (fun h => by cases h) hk0 hk1 hkk0 hkk1 (by rfl) h1 h2 h3
    (by rw [nn sp h1, nn n h3]; show ¬ _ > ((arrV (g.2.2.2 0) n0 (fun j => .int (f0 j))).slots.size : Int); rw [arrV_size]; omega)
    (by rw [nn dp h2, nn n h3]; show ¬ _ > ((arrV (g.2.2.2 0) n1 (fun j => .int (f1 j))).slots.size : Int); rw [arrV_size]; omega)
    (fun vm₁ _ i hi => by
      have e : (vp_cell (g.2.2.2 0) (n0, .inl f0)).slots.getD (sp.toNatClampNeg + i) .null = .int (f0 (sp.toNatClampNeg + i)) := by
        show (arrV (g.2.2.2 0) n0 (fun j => .int (f0 j))).slots.getD _ _ = _
        rw [Array.getD_eq_getD_getElem?, arrV_read _ _ (by omega)]
        rfl
      refine ⟨?_, ?_⟩
      · rw [e]
        rfl
      · rw [e]
        exact trivial)
    (g := F0 m pc ls (.int n :: .int dp :: .ref (x_ad g a1) :: .int sp :: .ref (x_ad g a0) :: rest)) rfl (by rw [hml]) (rest := rest) rfl (by rw [hb]; exact hdg) hframes (by show 2 * 0 + _ + _ ≤ _; omega)
  have e1 : copied (vp_cell (g.2.2.2 0) (n0, .inl f0)) (vp_cell (g.2.2.2 0) (n1, .inl f1)) sp dp n = vp_cell (g.2.2.2 0) (n1, .inl (va_cpy f0 f1 sp.toNatClampNeg dp.toNatClampNeg n.toNatClampNeg)) := va_copied (fun z => .int z) _ _ f0 f1 h4
  rw [e1] at X' step
  have hheap : ((T.setVm vm').setCell (x_ad g a1) (vp_cell (g.2.2.2 0) (n1, .inl (va_cpy f0 f1 sp.toNatClampNeg dp.toNatClampNeg n.toNatClampNeg)))).heap = H.setIfInBounds (x_ad g a1) (vp_cell (g.2.2.2 0) (n1, .inl (va_cpy f0 f1 sp.toNatClampNeg dp.toNatClampNeg n.toNatClampNeg))) := by rw [← hT]; rfl
  have oq : ∀ q : Nat, q ≠ x_ad g a1 → (H.setIfInBounds (x_ad g a1) (vp_cell (g.2.2.2 0) (n1, .inl (va_cpy f0 f1 sp.toNatClampNeg dp.toNatClampNeg n.toNatClampNeg))))[q]? = H[q]? := fun q hq => by simp [Array.getElem?_setIfInBounds, Ne.symm hq]
  obtain ⟨t, b1, b2⟩ := kk _ _ (hW.set ha1 (show (H.setIfInBounds (x_ad g a1) _)[x_ad g a1]? = some _ by simp [Array.getElem?_setIfInBounds, j2]) (by simp) oq) ⟨by simp; exact hS.1, fun q g1 g2 => by
      rw [oq q (fun e => g2 (by rw [e]; exact j1))]
      exact hS.2.1 q g1 g2, fun q hq => by
      rcases List.mem_append.mp hq with hz | hz
      · exact hS.2.2 q hz
      · obtain ⟨z, -, hz⟩ := List.mem_map.mp hz
        rw [← hz]
        exact j1⟩ _ hheap X'
  exact ⟨t, step t b1, b2⟩
end XRows
end
section
/-! what the tables say of the classes -/
def x_tyf : List (Nat → FieldType) := [tyX0, tyX1, tyX2, tyX3, tyX4, tyX5, tyX6, tyX7, tyX8, tyX9]
def x_CI (ci : Nat) (q : vw_C) : Prop := ∃ (ty : Nat → FieldType) (l : List FieldType), x_fts[ci]? = some l ∧ l.length = q.2.2 ∧ (∀ k, k < q.2.2 → l[k]? = some (ty k)) ∧ (∀ k, k < q.2.2 → parseFieldDescriptor (q.2.1 k).2.2.1 = some (ty k)) ∧ (∀ a, a < q.2.2 → ∀ b, b < q.2.2 → a ≠ b → (q.2.1 a).2.1 ≠ (q.2.1 b).2.1) ∧ (∀ w ∈ u_ws q.1 q.2.1 q.2.2, w ∈ lw_gd) ∧ Jvm.Cond.instantiable q.1 q.2.2 ∈ lw_gd ∧ Jvm.Cond.initialized q.1 ∈ lw_gd
set_option maxRecDepth 100000 in
theorem x_CI0 : x_CI 0 (RX0, TX0, 4) := ⟨tyX0, _, rfl, rfl, by decide +kernel, tyX0_ok, nmX0, by decide +kernel, by decide +kernel, by decide +kernel⟩
set_option maxRecDepth 100000 in
theorem x_CI1 : x_CI 1 (RX1, TX1, 4) := ⟨tyX1, _, rfl, rfl, by decide +kernel, tyX1_ok, nmX1, by decide +kernel, by decide +kernel, by decide +kernel⟩
set_option maxRecDepth 100000 in
theorem x_CI2 : x_CI 2 (RX2, TX2, 2) := ⟨tyX2, _, rfl, rfl, by decide +kernel, tyX2_ok, nmX2, by decide +kernel, by decide +kernel, by decide +kernel⟩
set_option maxRecDepth 100000 in
theorem x_CI3 : x_CI 3 (RX3, TX3, 5) := ⟨tyX3, _, rfl, rfl, by decide +kernel, tyX3_ok, nmX3, by decide +kernel, by decide +kernel, by decide +kernel⟩
set_option maxRecDepth 100000 in
theorem x_CI4 : x_CI 4 (RX4, TX4, 6) := ⟨tyX4, _, rfl, rfl, by decide +kernel, tyX4_ok, nmX4, by decide +kernel, by decide +kernel, by decide +kernel⟩
set_option maxRecDepth 100000 in
theorem x_CI5 : x_CI 5 (RX5, TX5, 4) := ⟨tyX5, _, rfl, rfl, by decide +kernel, tyX5_ok, nmX5, by decide +kernel, by decide +kernel, by decide +kernel⟩
set_option maxRecDepth 100000 in
theorem x_CI6 : x_CI 6 (RX6, TX6, 2) := ⟨tyX6, _, rfl, rfl, by decide +kernel, tyX6_ok, nmX6, by decide +kernel, by decide +kernel, by decide +kernel⟩
set_option maxRecDepth 100000 in
theorem x_CI7 : x_CI 7 (RX7, TX7, 1) := ⟨tyX7, _, rfl, rfl, by decide +kernel, tyX7_ok, nmX7, by decide +kernel, by decide +kernel, by decide +kernel⟩
set_option maxRecDepth 100000 in
theorem x_CI8 : x_CI 8 (RX8, TX8, 17) := ⟨tyX8, _, rfl, rfl, by decide +kernel, tyX8_ok, nmX8, by decide +kernel, by decide +kernel, by decide +kernel⟩
set_option maxRecDepth 100000 in
theorem x_CI9 : x_CI 9 (RX9, TX9, 33) := ⟨tyX9, _, rfl, rfl, by decide +kernel, tyX9_ok, nmX9, by decide +kernel, by decide +kernel, by decide +kernel⟩
theorem x_CI_at {ci : Nat} {q : vw_C} (h : vwCl[ci]? = some q) : x_CI ci q := by
  match ci, h with
  | 0, h => cases h; exact x_CI0
  | 1, h => cases h; exact x_CI1
  | 2, h => cases h; exact x_CI2
  | 3, h => cases h; exact x_CI3
  | 4, h => cases h; exact x_CI4
  | 5, h => cases h; exact x_CI5
  | 6, h => cases h; exact x_CI6
  | 7, h => cases h; exact x_CI7
  | 8, h => cases h; exact x_CI8
  | 9, h => cases h; exact x_CI9
  | k + 10, h => simp [vwCl] at h
set_option maxRecDepth 100000 in
theorem x_wint : Jvm.Cond.arrayClass .int ∈ lw_gd := by decide +kernel
set_option maxRecDepth 100000 in
theorem x_wlong : Jvm.Cond.arrayClass .long ∈ lw_gd := by decide +kernel
set_option maxRecDepth 100000 in
theorem x_wnat : Jvm.Cond.native arraycopyName ∈ lw_gd := by decide +kernel
set_option maxRecDepth 100000 in
theorem x_wsta : Jvm.Cond.static arraycopyName ∈ lw_gd := by decide +kernel
set_option maxRecDepth 100000 in
theorem x_wsys : Jvm.Cond.initialized "java/lang/System" ∈ lw_gd := by decide +kernel
set_option maxRecDepth 100000 in
theorem x_woin : Jvm.Cond.instanceMethod objectInit ∈ lw_gd := by decide +kernel
set_option maxRecDepth 100000 in
theorem x_woco : Jvm.Cond.code objectInit ⟨#[0xb1]⟩ 1 none ∈ lw_gd := by decide +kernel
/-! inversions -/
theorem x_nx_inv {n : Nat} {L : XL} {h : XH} {o : Option (List Value)} {q : XO} (hf : x_nx n L h o = some q) : ∃ st, o = some st ∧ q = .inl (n, L, st, h) := by
  unfold x_nx at hf
  split at hf
  · cases hf; exact ⟨_, rfl, rfl⟩
  · cases hf
theorem x_sx_inv {n : Nat} {st : List Value} {h : XH} {o : Option XL} {q : XO} (hf : x_sx n st h o = some q) : ∃ L, o = some L ∧ q = .inl (n, L, st, h) := by
  unfold x_sx at hf
  split at hf
  · cases hf; exact ⟨_, rfl, rfl⟩
  · cases hf
theorem x_bI_inv {f : Int32 → Int32 → Int32} {st st' : List Value} (h : x_bI f st = some st') : ∃ x y r, st = .int y :: .int x :: r ∧ st' = .int (f x y) :: r := by
  unfold x_bI at h
  split at h
  · cases h; exact ⟨_, _, _, rfl, rfl⟩
  · cases h
theorem x_dI_inv {f : Int32 → Int32 → Int32} {st st' : List Value} (h : x_dI f st = some st') : ∃ x y r, st = .int y :: .int x :: r ∧ st' = .int (f x y) :: r ∧ ¬ y = 0 := by
  unfold x_dI at h
  split at h
  · split at h
    · cases h
    · rename_i hy
      cases h; exact ⟨_, _, _, rfl, rfl, hy⟩
  · cases h
theorem x_bL_inv {f : Int64 → Int64 → Int64} {st st' : List Value} (h : x_bL f st = some st') : ∃ x y r, st = .long y :: .long x :: r ∧ st' = .long (f x y) :: r := by
  unfold x_bL at h
  split at h
  · cases h; exact ⟨_, _, _, rfl, rfl⟩
  · cases h
theorem x_dL_inv {f : Int64 → Int64 → Int64} {st st' : List Value} (h : x_dL f st = some st') : ∃ x y r, st = .long y :: .long x :: r ∧ st' = .long (f x y) :: r ∧ ¬ y = 0 := by
  unfold x_dL at h
  split at h
  · split at h
    · cases h
    · rename_i hy
      cases h; exact ⟨_, _, _, rfl, rfl, hy⟩
  · cases h
theorem x_uI_inv {f : Int32 → Value} {st st' : List Value} (h : x_uI f st = some st') : ∃ x r, st = .int x :: r ∧ st' = f x :: r := by
  unfold x_uI at h
  split at h
  · cases h; exact ⟨_, _, rfl, rfl⟩
  · cases h
theorem x_uL_inv {f : Int64 → Value} {st st' : List Value} (h : x_uL f st = some st') : ∃ x r, st = .long x :: r ∧ st' = f x :: r := by
  unfold x_uL at h
  split at h
  · cases h; exact ⟨_, _, rfl, rfl⟩
  · cases h
theorem x_lc_inv {p : Value → Bool} {L : XL} {i : Nat} {st st' : List Value} (h : x_lc p L i st = some st') : ∃ v, x_ld L i = some v ∧ p v = true ∧ st' = v :: st := by
  unfold x_lc at h
  split at h
  · split at h
    · rename_i v hv hp
      cases h; exact ⟨_, hv, hp, rfl⟩
    · cases h
  · cases h
theorem x_cI_inv {n : Nat} {L : XL} {i : Nat} {st : List Value} {h : XH} {q : XO} (hf : x_cI n L i st h = some q) : ∃ x r L', st = .int x :: r ∧ x_st1 L i (.int x) = some L' ∧ q = .inl (n, L', r, h) := by
  unfold x_cI at hf
  split at hf
  · obtain ⟨L', h1, h2⟩ := x_sx_inv hf
    exact ⟨_, _, L', rfl, h1, h2⟩
  · cases hf
theorem x_cL_inv {n : Nat} {L : XL} {i : Nat} {st : List Value} {h : XH} {q : XO} (hf : x_cL n L i st h = some q) : ∃ x r L', st = .long x :: r ∧ x_st2 L i (.long x) = some L' ∧ q = .inl (n, L', r, h) := by
  unfold x_cL at hf
  split at hf
  · obtain ⟨L', h1, h2⟩ := x_sx_inv hf
    exact ⟨_, _, L', rfl, h1, h2⟩
  · cases hf
theorem x_cA_inv {n : Nat} {L : XL} {i : Nat} {st : List Value} {h : XH} {q : XO} (hf : x_cA n L i st h = some q) : (∃ x r L', st = .ref x :: r ∧ x_st1 L i (.ref x) = some L' ∧ q = .inl (n, L', r, h)) ∨ (∃ r L', st = .null :: r ∧ x_st1 L i .null = some L' ∧ q = .inl (n, L', r, h)) := by
  unfold x_cA at hf
  split at hf
  · obtain ⟨L', h1, h2⟩ := x_sx_inv hf
    exact Or.inl ⟨_, _, L', rfl, h1, h2⟩
  · obtain ⟨L', h1, h2⟩ := x_sx_inv hf
    exact Or.inr ⟨_, L', rfl, h1, h2⟩
  · cases hf
theorem x_st1_lt {L L' : XL} {i : Nat} {v : Value} (h : x_st1 L i v = some L') : i < L.length := by
  unfold x_st1 at h
  split at h
  · assumption
  · cases h
theorem x_st2_lt {L L' : XL} {i : Nat} {v : Value} (h : x_st2 L i v = some L') : i + 1 < L.length := by
  unfold x_st2 at h
  split at h
  · assumption
  · cases h
theorem x_ok_spec {M : XM} {pc n a b ci pos : Nat} {ins : Instr} (h : x_okE M pc (ins, n, a, b, ci, pos) = true) (h1 : ins ≠ .nop) (h2 : ∀ d lo hi o, ins ≠ .tableswitch d lo hi o) : n = pc + x_len ins ∧ decode M.2.1 pc = .ok (ins, x_len ins) ∧ x_okX M pc (ins, n, a, b, ci, pos) = true := by
  unfold x_okE at h
  simp only [Bool.or_eq_true, decide_eq_true_eq, h1, false_or, Bool.and_eq_true] at h
  obtain ⟨h3, h4⟩ := h
  exact ⟨h3.1, h3.2, h4⟩
theorem x_ok_sw {M : XM} {pc n a b ci pos : Nat} {d lo hi : Int} {o : Array Int} (h : x_okE M pc (.tableswitch d lo hi o, n, a, b, ci, pos) = true) : decode M.2.1 pc = .ok (.tableswitch d lo hi o, n - pc) := by
  unfold x_okE at h
  simp at h
  exact h.1
end
section
/-! ONE STEP OF OUR MACHINE IS STEPS OF THE MACHINE -/
def x_Ctx (p : Program) (s : State) (m : MethodId) (args : Array Value) (meth : Method) (c : Code) (M : XM) (D : va_G) (g : XG) (X : XX) : Prop :=
  p.tables.exec = Jvm.exec ∧ c.code = M.2.1 ∧ c.maxLocals = M.2.2.1 ∧ s.vm.findClass M.1.cls = some m.cls ∧ (∀ w ∈ lw_gd, w.before args s = true) ∧ va_K D vwCl (x_tys g) s ∧ x_RO g X s s.heap ∧ x_NW s ∧ (M.1.name = "<init>" → meth.name = "<init>")
theorem x_ad_0 (g : XG) : x_ad g 1000 = g.2.1 := by simp [x_ad]
theorem x_ad_1 (g : XG) : x_ad g 1001 = g.2.2.1 := by simp [x_ad]
theorem x_cv_rf (g : XG) (r : Option Nat) : x_cv g (va_rf r) = va_rf (r.map (x_ad g)) := by cases r <;> rfl
theorem x_fits {g : XG} {ty : FieldType} {v : Value} (h : fits ty v = true) : fits ty (x_cv g v) = true := by
  cases v <;> first | exact h | (cases ty <;> first | exact h | rfl | cases h)
theorem x_narrow {g : XG} {ty : FieldType} {v : Value} (h : fits ty v = true) (ht : ty = .int ∨ ty = .long ∨ ty = .boolean ∨ (∃ n, ty = .object n) ∨ ∃ t, ty = .array t) : narrow ty (x_cv g v) = x_cv g v := by
  rcases ht with rfl | rfl | rfl | ⟨n, rfl⟩ | ⟨t, rfl⟩
  · cases v <;> first | rfl | cases h
  · cases v <;> first | rfl | cases h
  · cases v with
    | int x =>
      simp only [fits, Bool.or_eq_true, beq_iff_eq] at h
      rcases h with rfl | rfl <;> rfl
    | _ => cases h
  · cases v <;> first | rfl | cases h
  · cases v <;> first | rfl | cases h
theorem x_fts_kind {ci k : Nat} {ty : FieldType} (h : x_ft ci k = some ty) : ty = .int ∨ ty = .long ∨ ty = .boolean ∨ (∃ n, ty = .object n) ∨ ∃ t, ty = .array t := by
  have key : ∀ l ∈ x_fts, ∀ ty ∈ l, (ty = .int ∨ ty = .long ∨ ty = .boolean ∨ (∃ n, ty = .object n) ∨ ∃ t, ty = .array t) := by
    simp [x_fts]
  unfold x_ft at h
  split at h
  · rename_i l hl
    exact key l (List.mem_of_getElem? hl) ty (List.mem_of_getElem? h)
  · cases h
theorem x_okF_inv {own : String} {idx ci k pos : Nat} {put : Bool} (h : x_okF own idx ci k pos put = true) : ∃ C T N, vwCl[ci]? = some (C, T, N) ∧ k < N ∧ Jvm.Cond.fieldLink own idx (T k).1 (T k).2.1 (T k).2.2.1 ∈ lw_gd ∧ (put = true → (T k).2.2.2 = true → (T k).1 = own) := by
  unfold x_okF at h
  split at h
  · rename_i q hq
    simp only [Bool.and_eq_true, decide_eq_true_eq, Bool.or_eq_true, Bool.not_eq_true'] at h
    obtain ⟨h1, h2, h3⟩ := h
    refine ⟨q.1, q.2.1, q.2.2, hq, h1, x_lk_in h2, fun hp hf => ?_⟩
    rcases h3 with h3 | h3 | h3
    · rw [hp] at h3; cases h3
    · rw [hf] at h3; cases h3
    · exact h3
  · cases h
theorem x_get_inv {n : Nat} {L : XL} {st : List Value} {h : XH} {ci k : Nat} {q : XO} (hf : x_get n L st h ci k = some q) : ∃ a r fs v, st = .ref a :: r ∧ h[a]? = some (.inr (ci, fs)) ∧ fs[k]? = some v ∧ q = .inl (n, L, v :: r, h) := by
  unfold x_get at hf
  split at hf
  · split at hf
    · split at hf
      · rename_i a r c fs ha hc
        obtain ⟨st', h1, h2⟩ := x_nx_inv hf
        subst hc
        cases hv : fs[k]? with
        | none => rw [hv] at h1; cases h1
        | some v =>
          rw [hv] at h1
          cases h1
          exact ⟨_, _, fs, v, rfl, ha, hv, h2⟩
      · cases hf
    · cases hf
  · cases hf
theorem x_put_inv {i : Bool} {n : Nat} {L : XL} {st : List Value} {h : XH} {ci k : Nat} {q : XO} (hf : x_put i n L st h ci k = some q) : ∃ a r fs v ty, st = v :: .ref a :: r ∧ h[a]? = some (.inr (ci, fs)) ∧ x_ft ci k = some ty ∧ k < fs.length ∧ fits ty v = true ∧ (x_fin ci k = true → i = true) ∧ q = .inl (n, L, r, h.set a (.inr (ci, fs.set k v))) := by
  unfold x_put at hf
  split at hf
  · split at hf
    · split at hf
      · split at hf
        · rename_i hc
          obtain ⟨rfl, h2, h3, h4⟩ := hc
          cases hf
          exact ⟨_, _, _, _, _, rfl, by assumption, by assumption, h2, h3, h4, rfl⟩
        · cases hf
      · cases hf
    · cases hf
  · cases hf
theorem x_iald_inv {X : XX} {n : Nat} {L : XL} {st : List Value} {h : XH} {q : XO} (hf : x_iald X n L st h = some q) : ∃ i a r x, st = .int i :: .ref a :: r ∧ q = .inl (n, L, .int x :: r, h) ∧ ((a = 1000 ∧ ¬ (i < 0 ∨ X.1 ≤ i.toNatClampNeg) ∧ x = X.2 i.toNatClampNeg) ∨ (a = 1001 ∧ ¬ (i < 0 ∨ 6 ≤ i.toNatClampNeg) ∧ x = x_let i.toNatClampNeg) ∨ ∃ m f, h[a]? = some (.inl (0, m, .inl f)) ∧ ¬ (i < 0 ∨ m ≤ i.toNatClampNeg) ∧ x = f i.toNatClampNeg) := by
  unfold x_iald at hf
  split at hf
  · rename_i i a r
    split at hf
    · rename_i qq hq
      split at hf
      · cases hf
      · rename_i hi
        cases hf
        refine ⟨i, a, r, _, rfl, rfl, ?_⟩
        unfold x_ro at hq
        split at hq
        · rename_i ha
          cases hq
          exact Or.inl ⟨ha, hi, rfl⟩
        · split at hq
          · rename_i ha
            cases hq
            exact Or.inr (Or.inl ⟨ha, hi, rfl⟩)
          · cases hq
    · split at hf
      · split at hf
        · cases hf
        · rename_i m f hm hi
          cases hf
          exact ⟨i, a, r, _, rfl, rfl, Or.inr (Or.inr ⟨m, f, hm, hi, rfl⟩)⟩
      · cases hf
  · cases hf
theorem x_alen_inv {X : XX} {n : Nat} {L : XL} {st : List Value} {h : XH} {q : XO} (hf : x_alen X n L st h = some q) : ∃ a r x, st = .ref a :: r ∧ q = .inl (n, L, .int (Int32.ofNat x) :: r, h) ∧ ((a = 1000 ∧ x = X.1) ∨ (a = 1001 ∧ x = 6) ∨ ∃ t y, h[a]? = some (.inl (t, x, y)) ∧ t < 5) := by
  unfold x_alen at hf
  split at hf
  · rename_i a r
    split at hf
    · rename_i qq hq
      cases hf
      refine ⟨a, r, _, rfl, rfl, ?_⟩
      unfold x_ro at hq
      split at hq
      · rename_i ha
        cases hq
        exact Or.inl ⟨ha, rfl⟩
      · split at hq
        · rename_i ha
          cases hq
          exact Or.inr (Or.inl ⟨ha, rfl⟩)
        · cases hq
    · split at hf
      · split at hf
        · rename_i t m y hm ht
          cases hf
          exact ⟨a, r, m, rfl, rfl, Or.inr (Or.inr ⟨t, y, hm, ht⟩)⟩
        · cases hf
      · cases hf
  · cases hf
theorem x_iast_inv {n : Nat} {L : XL} {st : List Value} {h : XH} {q : XO} (hf : x_iast n L st h = some q) : ∃ x i a r m f, st = .int x :: .int i :: .ref a :: r ∧ h[a]? = some (.inl (0, m, .inl f)) ∧ ¬ (i < 0 ∨ m ≤ i.toNatClampNeg) ∧ q = .inl (n, L, r, h.set a (.inl (0, m, .inl (upd f i.toNatClampNeg x)))) := by
  unfold x_iast at hf
  split at hf
  · split at hf
    · split at hf
      · cases hf
      · rename_i hi
        cases hf
        exact ⟨_, _, _, _, _, _, rfl, by assumption, hi, rfl⟩
    · cases hf
  · cases hf
theorem x_lald_inv {n : Nat} {L : XL} {st : List Value} {h : XH} {q : XO} (hf : x_lald n L st h = some q) : ∃ i a r m f, st = .int i :: .ref a :: r ∧ h[a]? = some (.inl (1, m, .inr (.inl f))) ∧ ¬ (i < 0 ∨ m ≤ i.toNatClampNeg) ∧ q = .inl (n, L, .long (f i.toNatClampNeg) :: r, h) := by
  unfold x_lald at hf
  split at hf
  · split at hf
    · split at hf
      · cases hf
      · rename_i hi
        cases hf
        exact ⟨_, _, _, _, _, rfl, by assumption, hi, rfl⟩
    · cases hf
  · cases hf
theorem x_last_inv {n : Nat} {L : XL} {st : List Value} {h : XH} {q : XO} (hf : x_last n L st h = some q) : ∃ x i a r m f, st = .long x :: .int i :: .ref a :: r ∧ h[a]? = some (.inl (1, m, .inr (.inl f))) ∧ ¬ (i < 0 ∨ m ≤ i.toNatClampNeg) ∧ q = .inl (n, L, r, h.set a (.inl (1, m, .inr (.inl (vp_updL f i.toNatClampNeg x))))) := by
  unfold x_last at hf
  split at hf
  · split at hf
    · split at hf
      · cases hf
      · rename_i hi
        cases hf
        exact ⟨_, _, _, _, _, _, rfl, by assumption, hi, rfl⟩
    · cases hf
  · cases hf
theorem x_aald_inv {n : Nat} {L : XL} {st : List Value} {h : XH} {q : XO} (hf : x_aald n L st h = some q) : ∃ i a r t m f, st = .int i :: .ref a :: r ∧ h[a]? = some (.inl (t, m, .inr (.inr (.inr (.inr f))))) ∧ ¬ (i < 0 ∨ m ≤ i.toNatClampNeg) ∧ (∃ c, x_acl t = some c) ∧ q = .inl (n, L, va_rf (f i.toNatClampNeg) :: r, h) := by
  unfold x_aald at hf
  split at hf
  · split at hf
    · split at hf
      · cases hf
      · rename_i t _ _ _ hi
        cases hf
        refine ⟨_, _, _, t, _, _, rfl, by assumption, fun z => hi (z.elim Or.inl (fun z => Or.inr (Or.inl z))), ?_, rfl⟩
        cases hc : x_acl t with
        | none => exact absurd (Or.inr (Or.inr (by rw [hc]; rfl))) hi
        | some c => exact ⟨c, rfl⟩
    · cases hf
  · cases hf
theorem x_aast_inv {n : Nat} {L : XL} {st : List Value} {h : XH} {q : XO} (hf : x_aast n L st h = some q) : ∃ v i a r t m f c vs, st = .ref v :: .int i :: .ref a :: r ∧ h[a]? = some (.inl (t, m, .inr (.inr (.inr (.inr f))))) ∧ h[v]? = some (.inr (c, vs)) ∧ ¬ (i < 0 ∨ m ≤ i.toNatClampNeg) ∧ x_acl t = some c ∧ q = .inl (n, L, r, h.set a (.inl (t, m, .inr (.inr (.inr (.inr (va_up f i.toNatClampNeg (some v)))))))) := by
  unfold x_aast at hf
  split at hf
  · split at hf
    · split at hf
      · split at hf
        · cases hf
        · rename_i hi
          cases hf
          exact ⟨_, _, _, _, _, _, _, _, _, rfl, by assumption, by assumption, fun z => hi (z.elim Or.inl (fun z => Or.inr (Or.inl z))), Classical.byContradiction fun z => hi (Or.inr (Or.inr z)), rfl⟩
      · cases hf
    · cases hf
  · cases hf
theorem x_newa_inv {n : Nat} {L : XL} {st : List Value} {h : XH} {a0 : Nat → va_E} {q : XO} (hf : x_newa n L st h a0 = some q) : ∃ i r, st = .int i :: r ∧ ¬ i < 0 ∧ i.toNatClampNeg ≤ 1000000 ∧ h.length < 1000 ∧ q = .inl (n, L, .ref h.length :: r, h ++ [a0 i.toNatClampNeg]) := by
  unfold x_newa at hf
  split at hf
  · split at hf
    · cases hf
    · rename_i i r hi
      cases hf
      exact ⟨i, r, rfl, fun z => hi (Or.inl z), Nat.not_lt.mp fun z => hi (Or.inr (Or.inl z)), Nat.not_le.mp fun z => hi (Or.inr (Or.inr z)), rfl⟩
  · cases hf
theorem x_newo_inv {n : Nat} {L : XL} {st : List Value} {h : XH} {ci : Nat} {q : XO} (hf : x_newo n L st h ci = some q) : ∃ l, x_fts[ci]? = some l ∧ h.length < 1000 ∧ q = .inl (n, L, .ref h.length :: st, h ++ [.inr (ci, l.map x_def)]) := by
  unfold x_newo at hf
  split at hf
  · split at hf
    · cases hf
    · rename_i l hl hi
      cases hf
      exact ⟨l, hl, Nat.not_le.mp hi, rfl⟩
  · cases hf
theorem x_cpy_inv {n : Nat} {L : XL} {st : List Value} {h : XH} {q : XO} (hf : x_cpy n L st h = some q) : ∃ k dp a1 sp a0 r m0 f m1 f1, st = .int k :: .int dp :: .ref a1 :: .int sp :: .ref a0 :: r ∧ h[a0]? = some (.inl (0, m0, .inl f)) ∧ h[a1]? = some (.inl (0, m1, .inl f1)) ∧ ¬ sp < 0 ∧ ¬ dp < 0 ∧ ¬ k < 0 ∧ sp.toNatClampNeg + k.toNatClampNeg ≤ m0 ∧ dp.toNatClampNeg + k.toNatClampNeg ≤ m1 ∧ (r.map fun v => v.category).sum ≤ 8 ∧ q = .inl (n, L, r, h.set a1 (.inl (0, m1, .inl (va_cpy f f1 sp.toNatClampNeg dp.toNatClampNeg k.toNatClampNeg)))) := by
  unfold x_cpy at hf
  split at hf
  · split at hf
    · split at hf
      · split at hf
        · cases hf
        · rename_i hi
          cases hf
          exact ⟨_, _, _, _, _, _, _, _, _, _, rfl, by assumption, by assumption, fun z => hi (Or.inl z), fun z => hi (Or.inr (Or.inl z)), fun z => hi (Or.inr (Or.inr (Or.inl z))), Nat.not_lt.mp fun z => hi (Or.inr (Or.inr (Or.inr (Or.inl z)))), Nat.not_lt.mp fun z => hi (Or.inr (Or.inr (Or.inr (Or.inr (Or.inl z))))), Nat.not_lt.mp fun z => hi (Or.inr (Or.inr (Or.inr (Or.inr (Or.inr z))))), rfl⟩
      · cases hf
    · cases hf
  · cases hf
theorem x_oin_inv {n : Nat} {L : XL} {st : List Value} {h : XH} {q : XO} (hf : x_oin n L st h = some q) : ∃ a r, st = .ref a :: r ∧ (r.map fun v => v.category).sum ≤ 8 ∧ q = .inl (n, L, r, h) := by
  unfold x_oin at hf
  split at hf
  · split at hf
    · cases hf
    · rename_i a r hi
      cases hf
      exact ⟨a, r, rfl, Nat.not_lt.mp hi, rfl⟩
  · cases hf
theorem x_call_inv {μ n : Nat} {st : List Value} {q : XO} (hf : x_call μ n st = some q) : ¬ st.length < n ∧ ((st.drop n).map fun v => v.category).sum ≤ 8 ∧ q = .inr (.inr (μ, (st.take n).reverse, st.drop n)) := by
  unfold x_call at hf
  split at hf
  · cases hf
  · rename_i hi
    cases hf
    exact ⟨fun z => hi (Or.inl z), Nat.not_lt.mp fun z => hi (Or.inr z), rfl⟩
theorem x_callV_inv {μ n ci : Nat} {st : List Value} {h : XH} {q : XO} (hf : x_callV μ n ci st h = some q) : ∃ a fs, st[n]? = some (.ref a) ∧ h[a]? = some (.inr (ci, fs)) ∧ x_call μ (n + 1) st = some q := by
  unfold x_callV at hf
  split at hf
  · split at hf
    · split at hf
      · rename_i he
        subst he
        exact ⟨_, _, by assumption, by assumption, hf⟩
      · cases hf
    · cases hf
  · cases hf
theorem x_callI_inv {μ n : Nat} {st : List Value} {q : XO} (hf : x_callI μ n st = some q) : ∃ a, st[n]? = some (.ref a) ∧ x_call μ (n + 1) st = some q := by
  unfold x_callI at hf
  split at hf
  · exact ⟨_, by assumption, hf⟩
  · cases hf
theorem x_dup_inv {st st' : List Value} (h : x_dup st = some st') : ∃ v r, st = v :: r ∧ v.category = 1 ∧ st' = v :: v :: r := by
  unfold x_dup at h
  split at h
  · split at h
    · rename_i v r hv
      cases h; exact ⟨v, r, rfl, hv, rfl⟩
    · cases h
  · cases h
theorem x_dup2_inv {st st' : List Value} (h : x_dup2 st = some st') : ∃ v y r, st = v :: y :: r ∧ v.category = 1 ∧ y.category = 1 ∧ st' = v :: y :: v :: y :: r := by
  unfold x_dup2 at h
  split at h
  · split at h
    · rename_i v y r hv
      cases h; exact ⟨v, y, r, rfl, hv.1, hv.2, rfl⟩
    · cases h
  · cases h
theorem x_pop_inv {st st' : List Value} (h : x_pop st = some st') : ∃ v, st = v :: st' ∧ v.category = 1 := by
  unfold x_pop at h
  split at h
  · split at h
    · rename_i v r hv
      cases h; exact ⟨v, rfl, hv⟩
    · cases h
  · cases h
theorem x_inc_inv {n : Nat} {L : XL} {st : List Value} {h : XH} {i : Nat} {k : Int} {q : XO} (hf : x_inc n L st h i k = some q) : ∃ x L', x_ld L i = some (.int x) ∧ x_st1 L i (.int (x + Int32.ofInt k)) = some L' ∧ q = .inl (n, L', st, h) := by
  unfold x_inc at hf
  split at hf
  · rename_i x hx
    obtain ⟨L', h1, h2⟩ := x_sx_inv hf
    exact ⟨x, L', hx, h1, h2⟩
  · cases hf
theorem x_tgt_inv {pc : Nat} {off : Int} {t : Nat} (h : x_tgt pc off = some t) : (pc : Int) + off = (t : Int) := by
  unfold x_tgt at h
  split at h
  · cases h
  · cases h
    omega
end
section
/-! what a step keeps: the number of locals; the heap only grows -/
section XMono
variable {X : XX} {M : XM} {pc : Nat} {e : XE} {L : XL} {st : List Value} {h : XH} {q : Nat × XL × List Value × XH}
theorem x_st1_len {L L' : XL} {i : Nat} {v : Value} (h : x_st1 L i v = some L') : L'.length = L.length := by
  unfold x_st1 at h
  split at h
  · cases h; simp [x_clr_len]
  · cases h
theorem x_st2_len {L L' : XL} {i : Nat} {v : Value} (h : x_st2 L i v = some L') : L'.length = L.length := by
  unfold x_st2 at h
  split at h
  · cases h; simp [x_clr_len]
  · cases h
def x_gr (L : XL) (h : XH) (q : Nat × XL × List Value × XH) : Prop := q.2.1.length = L.length ∧ h.length ≤ q.2.2.2.length ∧ x_ss h ≤ x_ss q.2.2.2
theorem x_gr_nx {n : Nat} {o : Option (List Value)} (hf : x_nx n L h o = some (.inl q)) : x_gr L h q := by
  obtain ⟨st', -, h2⟩ := x_nx_inv hf
  cases h2
  exact ⟨rfl, Nat.le_refl _, Nat.le_refl _⟩
theorem x_gr_cI {n i : Nat} (hf : x_cI n L i st h = some (.inl q)) : x_gr L h q := by
  obtain ⟨x, r, L', -, h1, h2⟩ := x_cI_inv hf
  cases h2
  exact ⟨x_st1_len h1, Nat.le_refl _, Nat.le_refl _⟩
theorem x_gr_cL {n i : Nat} (hf : x_cL n L i st h = some (.inl q)) : x_gr L h q := by
  obtain ⟨x, r, L', -, h1, h2⟩ := x_cL_inv hf
  cases h2
  exact ⟨x_st2_len h1, Nat.le_refl _, Nat.le_refl _⟩
theorem x_gr_cA {n i : Nat} (hf : x_cA n L i st h = some (.inl q)) : x_gr L h q := by
  rcases x_cA_inv hf with ⟨x, r, L', -, h1, h2⟩ | ⟨r, L', -, h1, h2⟩
  · cases h2
    exact ⟨x_st1_len h1, Nat.le_refl _, Nat.le_refl _⟩
  · cases h2
    exact ⟨x_st1_len h1, Nat.le_refl _, Nat.le_refl _⟩
theorem x_gr_eq {n : Nat} {st' : List Value} (hf : (some (.inl (n, L, st', h)) : Option XO) = some (.inl q)) : x_gr L h q := by
  cases hf
  exact ⟨rfl, Nat.le_refl _, Nat.le_refl _⟩
theorem x_gr_set {n a : Nat} {st' : List Value} {e e' : va_E} (ha : h[a]? = some e) (he : x_sse e' = x_sse e) (hf : (Sum.inl q : XO) = .inl (n, L, st', h.set a e')) : x_gr L h q := by
  cases hf
  exact ⟨rfl, by simp, Nat.le_of_eq (x_ss_set ha he).symm⟩
theorem x_gr_app {n : Nat} {st' : List Value} {e' : va_E} (hf : (Sum.inl q : XO) = .inl (n, L, st', h ++ [e'])) : x_gr L h q := by
  cases hf
  exact ⟨rfl, by simp, by show x_ss h ≤ x_ss (h ++ [e']); rw [x_ss_app]; omega⟩
theorem x_gr_same {n : Nat} {st' : List Value} (hf : (Sum.inl q : XO) = .inl (n, L, st', h)) : x_gr L h q := by
  cases hf
  exact ⟨rfl, Nat.le_refl _, Nat.le_refl _⟩
set_option maxHeartbeats 4000000 in
theorem x_mono (hf : x_fun X M pc e L st h = some (.inl q)) : x_gr L h q := by
  obtain ⟨ins, n, a, b, ci, pos⟩ := e
  cases ins
  case iload => exact x_gr_nx hf
  case iload_n => exact x_gr_nx hf
  case lload => exact x_gr_nx hf
  case lload_n => exact x_gr_nx hf
  case aload => exact x_gr_nx hf
  case aload_n => exact x_gr_nx hf
  case iadd => exact x_gr_nx hf
  case isub => exact x_gr_nx hf
  case imul => exact x_gr_nx hf
  case iand => exact x_gr_nx hf
  case ior => exact x_gr_nx hf
  case ixor => exact x_gr_nx hf
  case ishl => exact x_gr_nx hf
  case ishr => exact x_gr_nx hf
  case iushr => exact x_gr_nx hf
  case idiv => exact x_gr_nx hf
  case irem => exact x_gr_nx hf
  case ineg => exact x_gr_nx hf
  case i2l => exact x_gr_nx hf
  case i2b => exact x_gr_nx hf
  case l2i => exact x_gr_nx hf
  case ladd => exact x_gr_nx hf
  case lmul => exact x_gr_nx hf
  case ldiv => exact x_gr_nx hf
  case lrem => exact x_gr_nx hf
  case dup => exact x_gr_nx hf
  case dup2 => exact x_gr_nx hf
  case pop => exact x_gr_nx hf
  case aconst_null => exact x_gr_eq hf
  case iconst => exact x_gr_eq hf
  case bipush => exact x_gr_eq hf
  case sipush => exact x_gr_eq hf
  case lconst => exact x_gr_eq hf
  case ldc => exact x_gr_eq hf
  case ldc_w => exact x_gr_eq hf
  case ldc2_w => exact x_gr_eq hf
  case goto => exact x_gr_eq hf
  case getstatic => exact x_gr_eq hf
  case istore => exact x_gr_cI hf
  case istore_n => exact x_gr_cI hf
  case lstore => exact x_gr_cL hf
  case lstore_n => exact x_gr_cL hf
  case astore => exact x_gr_cA hf
  case astore_n => exact x_gr_cA hf
  case iinc =>
    obtain ⟨x, L', -, h1, h2⟩ := x_inc_inv hf
    cases h2
    exact ⟨x_st1_len h1, Nat.le_refl _, Nat.le_refl _⟩
  case getfield =>
    obtain ⟨_, _, _, _, -, -, -, h2⟩ := x_get_inv hf
    exact x_gr_same h2
  case putfield =>
    obtain ⟨_, _, _, _, _, -, h1, -, -, -, -, h2⟩ := x_put_inv hf
    exact x_gr_set h1 (by simp [x_sse]) h2
  case iaload =>
    obtain ⟨_, _, _, _, -, h2, -⟩ := x_iald_inv hf
    exact x_gr_same h2
  case iastore =>
    obtain ⟨_, _, _, _, _, _, -, h1, -, h2⟩ := x_iast_inv hf
    exact x_gr_set h1 (by rfl) h2
  case laload =>
    obtain ⟨_, _, _, _, _, -, h1, -, h2⟩ := x_lald_inv hf
    exact x_gr_same h2
  case lastore =>
    obtain ⟨_, _, _, _, _, _, -, h1, -, h2⟩ := x_last_inv hf
    exact x_gr_set h1 (by rfl) h2
  case aaload =>
    obtain ⟨_, _, _, _, _, _, -, h1, -, -, h2⟩ := x_aald_inv hf
    exact x_gr_same h2
  case aastore =>
    obtain ⟨_, _, _, _, _, _, _, _, _, -, h1, -, -, -, h2⟩ := x_aast_inv hf
    exact x_gr_set h1 (by rfl) h2
  case arraylength =>
    obtain ⟨_, _, _, -, h2, -⟩ := x_alen_inv hf
    exact x_gr_same h2
  case new =>
    obtain ⟨_, -, -, h2⟩ := x_newo_inv hf
    exact x_gr_app h2
  case newarray t =>
    cases t
    case int =>
      simp only [x_fun] at hf
      obtain ⟨_, _, -, -, -, -, h2⟩ := x_newa_inv hf
      exact x_gr_app h2
    case long =>
      simp only [x_fun] at hf
      obtain ⟨_, _, -, -, -, -, h2⟩ := x_newa_inv hf
      exact x_gr_app h2
    all_goals exact absurd hf (fun z => by cases z)
  case anewarray idx =>
    change (if (x_acl a).isNone = true then none else x_newa n L st h _) = _ at hf
    split at hf
    · cases hf
    · obtain ⟨_, _, -, -, -, -, h2⟩ := x_newa_inv hf
      exact x_gr_app h2
  case invokestatic =>
    change (if a = 9999 then x_cpy n L st h else x_call a b st) = _ at hf
    split at hf
    · obtain ⟨_, _, _, _, _, _, _, _, _, _, -, -, h1, -, -, -, -, -, -, h2⟩ := x_cpy_inv hf
      exact x_gr_set h1 (by rfl) h2
    · obtain ⟨-, -, h2⟩ := x_call_inv hf
      cases h2
  case invokespecial =>
    change (if a = 9998 then x_oin n L st h else x_callI a b st) = _ at hf
    split at hf
    · obtain ⟨_, _, -, -, h2⟩ := x_oin_inv hf
      exact x_gr_same h2
    · obtain ⟨_, -, h3⟩ := x_callI_inv hf
      obtain ⟨-, -, h2⟩ := x_call_inv h3
      cases h2
  case invokevirtual =>
    obtain ⟨_, _, -, -, h3⟩ := x_callV_inv hf
    obtain ⟨-, -, h2⟩ := x_call_inv h3
    cases h2
  case lcmp =>
    simp only [x_fun] at hf
    split at hf
    · exact x_gr_eq hf
    · cases hf
  case ifCond =>
    simp only [x_fun] at hf
    split at hf
    · exact x_gr_eq hf
    · cases hf
  case if_icmp =>
    simp only [x_fun] at hf
    split at hf
    · exact x_gr_eq hf
    · cases hf
  case ifnull =>
    simp only [x_fun] at hf
    split at hf
    · exact x_gr_eq hf
    · exact x_gr_eq hf
    · cases hf
  case ifnonnull =>
    simp only [x_fun] at hf
    split at hf
    · exact x_gr_eq hf
    · exact x_gr_eq hf
    · cases hf
  case tableswitch =>
    simp only [x_fun] at hf
    split at hf
    · split at hf
      · exact x_gr_eq hf
      · cases hf
    · cases hf
  case ireturn =>
    simp only [x_fun, x_ret] at hf
    split at hf
    · split at hf <;> cases hf
    · cases hf
  case lreturn =>
    simp only [x_fun, x_retL] at hf
    split at hf <;> cases hf
  case areturn =>
    simp only [x_fun, x_retA] at hf
    split at hf <;> cases hf
  case return_ =>
    simp only [x_fun, x_retV] at hf
    split at hf <;> cases hf
  all_goals exact absurd hf (fun z => by cases z)
end XMono
end
section
theorem x_ld_at {L : XL} {i : Nat} {v : Value} (h : x_ld L i = some v) : L[i]? = some (some v) := by
  unfold x_ld at h
  split at h
  · rename_i y hy
    cases h
    exact hy
  · cases h
section XStep
variable {p : Program} {l : Launch} {e : Env} {R : Room} {s : State} {m : MethodId} {args : Array Value} {below : List Frame} {meth : Method} {c : Code} {H : Heap} {locs : List Loc} {Q : State → Prop}
variable {M : XM} {D : va_G} {g : XG} {X : XX} {pc : Nat} {e0 : XE} {L : XL} {st : List Value} {h : XH} {q : Nat × XL × List Value × XH} {ls : Array Slot} {k0 s0 : Nat}
set_option maxHeartbeats 16000000 in
theorem x_step (C0 : x_Ctx p s m args meth c M D g X) (hR : 1 ≤ R.frames ∧ 40 ≤ R.locals) (hok : x_okE M pc e0 = true) (hf : x_fun X M pc e0 L st h = some (.inl q)) (hW : x_Wd D g h H) (hS : va_S (x_A g) s.heap H locs) (hL : x_LR g ls L) (hlen : L.length = M.2.2.1) (hk : k0 ≤ h.length) (hs : s0 ≤ x_ss h) (hr : q.2.2.2.length - k0 ≤ R.cells ∧ x_ss q.2.2.2 - s0 ≤ R.slots)
    (kk : ∀ (H1 : Heap) (locs1 : List Loc) (ls1 : Array Slot), x_Wd D g q.2.2.2 H1 → va_S (x_A g) s.heap H1 locs1 → x_LR g ls1 q.2.1 → W p l e R s m args below meth c H1 locs1 (q.2.2.2.length - k0) (x_ss q.2.2.2 - s0) Q (F0 m q.1 ls1 (q.2.2.1.map (x_cv g)))) : W p l e R s m args below meth c H locs (h.length - k0) (x_ss h - s0) Q (F0 m pc ls (st.map (x_cv g))) := by
  obtain ⟨hx, hb, hml, hown, hts, hK, hRO, hNW, hin⟩ := C0
  obtain ⟨ins, n, a, b, ci, pos⟩ := e0
  cases ins
  case iadd =>
    obtain ⟨hn, hd, hv⟩ := x_ok_spec hok (by intro z; cases z) (by intro _ _ _ _ z; cases z)
    subst hn
    obtain ⟨st', h1, h2⟩ := x_nx_inv hf
    cases h2
    obtain ⟨x, y, r, rfl, rfl⟩ := x_bI_inv h1
    exact lv_iadd hx hb hd (kk H locs ls hW hS hL)
  case isub =>
    obtain ⟨hn, hd, hv⟩ := x_ok_spec hok (by intro z; cases z) (by intro _ _ _ _ z; cases z)
    subst hn
    obtain ⟨st', h1, h2⟩ := x_nx_inv hf
    cases h2
    obtain ⟨x, y, r, rfl, rfl⟩ := x_bI_inv h1
    exact lv_isub hx hb hd (kk H locs ls hW hS hL)
  case imul =>
    obtain ⟨hn, hd, hv⟩ := x_ok_spec hok (by intro z; cases z) (by intro _ _ _ _ z; cases z)
    subst hn
    obtain ⟨st', h1, h2⟩ := x_nx_inv hf
    cases h2
    obtain ⟨x, y, r, rfl, rfl⟩ := x_bI_inv h1
    exact lv_imul hx hb hd (kk H locs ls hW hS hL)
  case iand =>
    obtain ⟨hn, hd, hv⟩ := x_ok_spec hok (by intro z; cases z) (by intro _ _ _ _ z; cases z)
    subst hn
    obtain ⟨st', h1, h2⟩ := x_nx_inv hf
    cases h2
    obtain ⟨x, y, r, rfl, rfl⟩ := x_bI_inv h1
    exact lv_iand hx hb hd (kk H locs ls hW hS hL)
  case ior =>
    obtain ⟨hn, hd, hv⟩ := x_ok_spec hok (by intro z; cases z) (by intro _ _ _ _ z; cases z)
    subst hn
    obtain ⟨st', h1, h2⟩ := x_nx_inv hf
    cases h2
    obtain ⟨x, y, r, rfl, rfl⟩ := x_bI_inv h1
    exact lv_ior hx hb hd (kk H locs ls hW hS hL)
  case ixor =>
    obtain ⟨hn, hd, hv⟩ := x_ok_spec hok (by intro z; cases z) (by intro _ _ _ _ z; cases z)
    subst hn
    obtain ⟨st', h1, h2⟩ := x_nx_inv hf
    cases h2
    obtain ⟨x, y, r, rfl, rfl⟩ := x_bI_inv h1
    exact lv_ixor hx hb hd (kk H locs ls hW hS hL)
  case ishl =>
    obtain ⟨hn, hd, hv⟩ := x_ok_spec hok (by intro z; cases z) (by intro _ _ _ _ z; cases z)
    subst hn
    obtain ⟨st', h1, h2⟩ := x_nx_inv hf
    cases h2
    obtain ⟨x, y, r, rfl, rfl⟩ := x_bI_inv h1
    exact lv_ishl hx hb hd (kk H locs ls hW hS hL)
  case ishr =>
    obtain ⟨hn, hd, hv⟩ := x_ok_spec hok (by intro z; cases z) (by intro _ _ _ _ z; cases z)
    subst hn
    obtain ⟨st', h1, h2⟩ := x_nx_inv hf
    cases h2
    obtain ⟨x, y, r, rfl, rfl⟩ := x_bI_inv h1
    exact lv_ishr hx hb hd (kk H locs ls hW hS hL)
  case iushr =>
    obtain ⟨hn, hd, hv⟩ := x_ok_spec hok (by intro z; cases z) (by intro _ _ _ _ z; cases z)
    subst hn
    obtain ⟨st', h1, h2⟩ := x_nx_inv hf
    cases h2
    obtain ⟨x, y, r, rfl, rfl⟩ := x_bI_inv h1
    exact lv_iushr hx hb hd rfl (kk H locs ls hW hS hL)
  case idiv =>
    obtain ⟨hn, hd, hv⟩ := x_ok_spec hok (by intro z; cases z) (by intro _ _ _ _ z; cases z)
    subst hn
    obtain ⟨st', h1, h2⟩ := x_nx_inv hf
    cases h2
    obtain ⟨x, y, r, rfl, rfl, hy⟩ := x_dI_inv h1
    exact lv_idiv hx hb hd hy (kk H locs ls hW hS hL)
  case irem =>
    obtain ⟨hn, hd, hv⟩ := x_ok_spec hok (by intro z; cases z) (by intro _ _ _ _ z; cases z)
    subst hn
    obtain ⟨st', h1, h2⟩ := x_nx_inv hf
    cases h2
    obtain ⟨x, y, r, rfl, rfl, hy⟩ := x_dI_inv h1
    exact lv_irem hx hb hd hy (kk H locs ls hW hS hL)
  case ladd =>
    obtain ⟨hn, hd, hv⟩ := x_ok_spec hok (by intro z; cases z) (by intro _ _ _ _ z; cases z)
    subst hn
    obtain ⟨st', h1, h2⟩ := x_nx_inv hf
    cases h2
    obtain ⟨x, y, r, rfl, rfl⟩ := x_bL_inv h1
    exact lv_ladd hx hb hd (kk H locs ls hW hS hL)
  case lmul =>
    obtain ⟨hn, hd, hv⟩ := x_ok_spec hok (by intro z; cases z) (by intro _ _ _ _ z; cases z)
    subst hn
    obtain ⟨st', h1, h2⟩ := x_nx_inv hf
    cases h2
    obtain ⟨x, y, r, rfl, rfl⟩ := x_bL_inv h1
    exact lv_lmul hx hb hd (kk H locs ls hW hS hL)
  case ldiv =>
    obtain ⟨hn, hd, hv⟩ := x_ok_spec hok (by intro z; cases z) (by intro _ _ _ _ z; cases z)
    subst hn
    obtain ⟨st', h1, h2⟩ := x_nx_inv hf
    cases h2
    obtain ⟨x, y, r, rfl, rfl, hy⟩ := x_dL_inv h1
    exact lv_ldiv hx hb hd hy (kk H locs ls hW hS hL)
  case lrem =>
    obtain ⟨hn, hd, hv⟩ := x_ok_spec hok (by intro z; cases z) (by intro _ _ _ _ z; cases z)
    subst hn
    obtain ⟨st', h1, h2⟩ := x_nx_inv hf
    cases h2
    obtain ⟨x, y, r, rfl, rfl, hy⟩ := x_dL_inv h1
    exact lv_lrem hx hb hd hy (kk H locs ls hW hS hL)
  case ineg =>
    obtain ⟨hn, hd, hv⟩ := x_ok_spec hok (by intro z; cases z) (by intro _ _ _ _ z; cases z)
    subst hn
    obtain ⟨st', h1, h2⟩ := x_nx_inv hf
    cases h2
    obtain ⟨x, r, rfl, rfl⟩ := x_uI_inv h1
    exact lv_ineg hx hb hd (kk H locs ls hW hS hL)
  case i2l =>
    obtain ⟨hn, hd, hv⟩ := x_ok_spec hok (by intro z; cases z) (by intro _ _ _ _ z; cases z)
    subst hn
    obtain ⟨st', h1, h2⟩ := x_nx_inv hf
    cases h2
    obtain ⟨x, r, rfl, rfl⟩ := x_uI_inv h1
    exact lv_i2l hx hb hd rfl (kk H locs ls hW hS hL)
  case i2b =>
    obtain ⟨hn, hd, hv⟩ := x_ok_spec hok (by intro z; cases z) (by intro _ _ _ _ z; cases z)
    subst hn
    obtain ⟨st', h1, h2⟩ := x_nx_inv hf
    cases h2
    obtain ⟨x, r, rfl, rfl⟩ := x_uI_inv h1
    exact lv_i2b hx hb hd rfl (kk H locs ls hW hS hL)
  case l2i =>
    obtain ⟨hn, hd, hv⟩ := x_ok_spec hok (by intro z; cases z) (by intro _ _ _ _ z; cases z)
    subst hn
    obtain ⟨st', h1, h2⟩ := x_nx_inv hf
    cases h2
    obtain ⟨x, r, rfl, rfl⟩ := x_uL_inv h1
    exact lv_l2i hx hb hd rfl (kk H locs ls hW hS hL)
  case dup =>
    obtain ⟨hn, hd, hv⟩ := x_ok_spec hok (by intro z; cases z) (by intro _ _ _ _ z; cases z)
    subst hn
    obtain ⟨st', h1, h2⟩ := x_nx_inv hf
    cases h2
    obtain ⟨v, r, rfl, h3, rfl⟩ := x_dup_inv h1
    exact lv_dup hx hb hd (by rw [x_cat]; exact h3) (kk H locs ls hW hS hL)
  case dup2 =>
    obtain ⟨hn, hd, hv⟩ := x_ok_spec hok (by intro z; cases z) (by intro _ _ _ _ z; cases z)
    subst hn
    obtain ⟨st', h1, h2⟩ := x_nx_inv hf
    cases h2
    obtain ⟨v, y, r, rfl, h3, h4, rfl⟩ := x_dup2_inv h1
    exact lv_dup2_11 hx hb hd (by rw [x_cat]; exact h3) (by rw [x_cat]; exact h4) (kk H locs ls hW hS hL)
  case pop =>
    obtain ⟨hn, hd, hv⟩ := x_ok_spec hok (by intro z; cases z) (by intro _ _ _ _ z; cases z)
    subst hn
    obtain ⟨st', h1, h2⟩ := x_nx_inv hf
    cases h2
    obtain ⟨v, rfl, h3⟩ := x_pop_inv h1
    exact lv_pop hx hb hd (by rw [x_cat]; exact h3) (kk H locs ls hW hS hL)
  case aconst_null =>
    obtain ⟨hn, hd, hv⟩ := x_ok_spec hok (by intro z; cases z) (by intro _ _ _ _ z; cases z)
    subst hn
    cases hf
    exact lv_null hx hb hd (kk H locs ls hW hS hL)
  case iconst =>
    obtain ⟨hn, hd, hv⟩ := x_ok_spec hok (by intro z; cases z) (by intro _ _ _ _ z; cases z)
    subst hn
    cases hf
    exact lv_iconst hx hb hd rfl (kk H locs ls hW hS hL)
  case bipush =>
    obtain ⟨hn, hd, hv⟩ := x_ok_spec hok (by intro z; cases z) (by intro _ _ _ _ z; cases z)
    subst hn
    cases hf
    exact lv_bipush hx hb hd rfl (kk H locs ls hW hS hL)
  case sipush =>
    obtain ⟨hn, hd, hv⟩ := x_ok_spec hok (by intro z; cases z) (by intro _ _ _ _ z; cases z)
    subst hn
    cases hf
    exact lv_sipush hx hb hd rfl (kk H locs ls hW hS hL)
  case lconst =>
    obtain ⟨hn, hd, hv⟩ := x_ok_spec hok (by intro z; cases z) (by intro _ _ _ _ z; cases z)
    subst hn
    cases hf
    exact lv_lconst hx hb hd rfl (kk H locs ls hW hS hL)
  case ldc =>
    obtain ⟨hn, hd, hv⟩ := x_ok_spec hok (by intro z; cases z) (by intro _ _ _ _ z; cases z)
    subst hn
    cases hf
    exact lv_ldc hx hb hown (hts _ (x_lk_in hv)) hd (kk H locs ls hW hS hL)
  case ldc_w =>
    obtain ⟨hn, hd, hv⟩ := x_ok_spec hok (by intro z; cases z) (by intro _ _ _ _ z; cases z)
    subst hn
    cases hf
    exact lv_ldcw hx hb hown (hts _ (x_lk_in hv)) hd (kk H locs ls hW hS hL)
  case ldc2_w =>
    obtain ⟨hn, hd, hv⟩ := x_ok_spec hok (by intro z; cases z) (by intro _ _ _ _ z; cases z)
    subst hn
    cases hf
    exact lv_ldc2 hx hb hown (hts _ (x_lk_in hv)) hd (kk H locs ls hW hS hL)
  case iload =>
    obtain ⟨hn, hd, hv⟩ := x_ok_spec hok (by intro z; cases z) (by intro _ _ _ _ z; cases z)
    subst hn
    obtain ⟨st', h1, h2⟩ := x_nx_inv hf
    cases h2
    obtain ⟨v, h3, h4, rfl⟩ := x_lc_inv h1
    cases v with
    | int x => exact lv_iload hx hb hd (x_LR_ld hL h3) (kk H locs ls hW hS hL)
    | _ => cases h4
  case iload_n =>
    obtain ⟨hn, hd, hv⟩ := x_ok_spec hok (by intro z; cases z) (by intro _ _ _ _ z; cases z)
    subst hn
    obtain ⟨st', h1, h2⟩ := x_nx_inv hf
    cases h2
    obtain ⟨v, h3, h4, rfl⟩ := x_lc_inv h1
    cases v with
    | int x => exact lv_iload_n hx hb hd rfl (x_LR_ld hL h3) (kk H locs ls hW hS hL)
    | _ => cases h4
  case lload =>
    obtain ⟨hn, hd, hv⟩ := x_ok_spec hok (by intro z; cases z) (by intro _ _ _ _ z; cases z)
    subst hn
    obtain ⟨st', h1, h2⟩ := x_nx_inv hf
    cases h2
    obtain ⟨v, h3, h4, rfl⟩ := x_lc_inv h1
    cases v with
    | long x => exact lv_lload hx hb hd (x_LR_ld hL h3) (kk H locs ls hW hS hL)
    | _ => cases h4
  case lload_n =>
    obtain ⟨hn, hd, hv⟩ := x_ok_spec hok (by intro z; cases z) (by intro _ _ _ _ z; cases z)
    subst hn
    obtain ⟨st', h1, h2⟩ := x_nx_inv hf
    cases h2
    obtain ⟨v, h3, h4, rfl⟩ := x_lc_inv h1
    cases v with
    | long x => exact lv_lload_n hx hb hd rfl (x_LR_ld hL h3) (kk H locs ls hW hS hL)
    | _ => cases h4
  case aload =>
    obtain ⟨hn, hd, hv⟩ := x_ok_spec hok (by intro z; cases z) (by intro _ _ _ _ z; cases z)
    subst hn
    obtain ⟨st', h1, h2⟩ := x_nx_inv hf
    cases h2
    obtain ⟨v, h3, h4, rfl⟩ := x_lc_inv h1
    cases v with
    | ref x => exact lv_aload hx hb hd (x_LR_ld hL h3) (kk H locs ls hW hS hL)
    | null => exact lv_aloadN hx hb hd (x_LR_ld hL h3) (kk H locs ls hW hS hL)
    | _ => cases h4
  case aload_n =>
    obtain ⟨hn, hd, hv⟩ := x_ok_spec hok (by intro z; cases z) (by intro _ _ _ _ z; cases z)
    subst hn
    obtain ⟨st', h1, h2⟩ := x_nx_inv hf
    cases h2
    obtain ⟨v, h3, h4, rfl⟩ := x_lc_inv h1
    cases v with
    | ref x => exact lv_aload_n hx hb hd rfl (x_LR_ld hL h3) (kk H locs ls hW hS hL)
    | null => exact lv_aload_nN hx hb hd rfl (x_LR_ld hL h3) (kk H locs ls hW hS hL)
    | _ => cases h4
  case istore =>
    obtain ⟨hn, hd, hv⟩ := x_ok_spec hok (by intro z; cases z) (by intro _ _ _ _ z; cases z)
    subst hn
    obtain ⟨x, r, L', rfl, h1, h2⟩ := x_cI_inv hf
    cases h2
    exact lv_istore hx hb hd (x_LR_has hL) (x_st1_lt h1) rfl (fun ls1 hl1 => kk H locs ls1 hW hS (x_LR_st1 (ls := ls) h1 ls1 hl1))
  case lstore =>
    obtain ⟨hn, hd, hv⟩ := x_ok_spec hok (by intro z; cases z) (by intro _ _ _ _ z; cases z)
    subst hn
    obtain ⟨x, r, L', rfl, h1, h2⟩ := x_cL_inv hf
    cases h2
    exact lv_lstore hx hb hd (x_LR_has hL) (x_st2_lt h1) rfl (fun ls1 hl1 => kk H locs ls1 hW hS (x_LR_st2 (ls := ls) h1 ls1 hl1))
  case astore =>
    obtain ⟨hn, hd, hv⟩ := x_ok_spec hok (by intro z; cases z) (by intro _ _ _ _ z; cases z)
    subst hn
    rcases x_cA_inv hf with ⟨x, r, L', rfl, h1, h2⟩ | ⟨r, L', rfl, h1, h2⟩
    · cases h2
      exact lv_astore hx hb hd (x_LR_has hL) (x_st1_lt h1) rfl (fun ls1 hl1 => kk H locs ls1 hW hS (x_LR_st1 (ls := ls) h1 ls1 hl1))
    · cases h2
      exact lv_astoreN hx hb hd (x_LR_has hL) (x_st1_lt h1) rfl (fun ls1 hl1 => kk H locs ls1 hW hS (x_LR_st1 (ls := ls) h1 ls1 hl1))
  case istore_n =>
    obtain ⟨hn, hd, hv⟩ := x_ok_spec hok (by intro z; cases z) (by intro _ _ _ _ z; cases z)
    subst hn
    obtain ⟨x, r, L', rfl, h1, h2⟩ := x_cI_inv hf
    cases h2
    exact lv_istore_n hx hb hd rfl (x_LR_has hL) (x_st1_lt h1) rfl (fun ls1 hl1 => kk H locs ls1 hW hS (x_LR_st1 (ls := ls) h1 ls1 hl1))
  case lstore_n =>
    obtain ⟨hn, hd, hv⟩ := x_ok_spec hok (by intro z; cases z) (by intro _ _ _ _ z; cases z)
    subst hn
    obtain ⟨x, r, L', rfl, h1, h2⟩ := x_cL_inv hf
    cases h2
    exact lv_lstore_n hx hb hd rfl (x_LR_has hL) (x_st2_lt h1) rfl (fun ls1 hl1 => kk H locs ls1 hW hS (x_LR_st2 (ls := ls) h1 ls1 hl1))
  case astore_n =>
    obtain ⟨hn, hd, hv⟩ := x_ok_spec hok (by intro z; cases z) (by intro _ _ _ _ z; cases z)
    subst hn
    rcases x_cA_inv hf with ⟨x, r, L', rfl, h1, h2⟩ | ⟨r, L', rfl, h1, h2⟩
    · cases h2
      exact lv_astore_n hx hb hd rfl (x_LR_has hL) (x_st1_lt h1) rfl (fun ls1 hl1 => kk H locs ls1 hW hS (x_LR_st1 (ls := ls) h1 ls1 hl1))
    · cases h2
      exact lv_astore_nN hx hb hd rfl (x_LR_has hL) (x_st1_lt h1) rfl (fun ls1 hl1 => kk H locs ls1 hW hS (x_LR_st1 (ls := ls) h1 ls1 hl1))
  case iinc i k =>
    obtain ⟨hn, hd, hv⟩ := x_ok_spec hok (by intro z; cases z) (by intro _ _ _ _ z; cases z)
    subst hn
    obtain ⟨x, L', h0, h1, h2⟩ := x_inc_inv hf
    cases h2
    have hm : (i, Value.int x) ∈ x_pr g L := x_pr_in.mpr ⟨.int x, x_ld_at h0, rfl⟩
    obtain ⟨j, hj⟩ := List.getElem?_of_mem hm
    exact lv_iinc hx hb hd (x_LR_has hL) hj rfl (x_st1_lt h1) rfl (fun ls1 hl1 => kk H locs ls1 hW hS (x_LR_st1 (ls := ls) h1 ls1 hl1))
  case goto =>
    obtain ⟨hn, hd, hv⟩ := x_ok_spec hok (by intro z; cases z) (by intro _ _ _ _ z; cases z)
    subst hn
    cases hf
    exact lv_goto hx hb hd (of_decide_eq_true hv) (kk H locs ls hW hS hL)
  case lcmp =>
    obtain ⟨hn, hd, hv⟩ := x_ok_spec hok (by intro z; cases z) (by intro _ _ _ _ z; cases z)
    subst hn
    simp only [x_fun] at hf
    split at hf
    · cases hf
      exact W.lcmp hx hb hd (kk H locs ls hW hS hL)
    · cases hf
  case ifnull =>
    obtain ⟨hn, hd, hv⟩ := x_ok_spec hok (by intro z; cases z) (by intro _ _ _ _ z; cases z)
    subst hn
    simp only [x_fun] at hf
    split at hf
    · cases hf
      exact lv_ifnull hx hb hd (kk H locs ls hW hS hL)
    · cases hf
      exact lv_ifnullN hx hb hd (of_decide_eq_true hv) (kk H locs ls hW hS hL)
    · cases hf
  case ifnonnull =>
    obtain ⟨hn, hd, hv⟩ := x_ok_spec hok (by intro z; cases z) (by intro _ _ _ _ z; cases z)
    subst hn
    simp only [x_fun] at hf
    split at hf
    · cases hf
      exact lv_ifnonnull hx hb hd (of_decide_eq_true hv) (kk H locs ls hW hS hL)
    · cases hf
      exact lv_ifnonnullN hx hb hd (kk H locs ls hW hS hL)
    · cases hf
  case tableswitch d lo hi offs =>
    have hd := x_ok_sw hok
    simp only [x_fun] at hf
    split at hf
    · split at hf
      · rename_i x r t ht
        cases hf
        unfold x_sw at ht
        split at ht
        · rename_i hc
          exact lv_tableOut hx hb hd hc (x_tgt_inv ht) (kk H locs ls hW hS hL)
        · rename_i hc
          split at ht
          · rename_i off ho
            exact lv_tableIn hx hb hd (fun z => hc (Or.inl z)) (fun z => hc (Or.inr z)) ho (x_tgt_inv ht) (kk H locs ls hW hS hL)
          · cases ht
      · cases hf
    · cases hf
  case ifCond cd off =>
    obtain ⟨hn, hd, hv⟩ := x_ok_spec hok (by intro z; cases z) (by intro _ _ _ _ z; cases z)
    subst hn
    simp only [x_fun] at hf
    split at hf
    · rename_i x r
      cases hf
      have ht : (pc : Int) + off = (a : Int) := of_decide_eq_true hv
      cases cd
      case eq =>
        refine lv_if_eq hx hb hd ht (fun hc => ?_) (fun hc => ?_)
        · have kk := kk H locs ls hW hS hL
          rw [if_pos ((x_cdc_iff .eq x 0).mpr hc)] at kk
          exact kk
        · have kk := kk H locs ls hW hS hL
          rw [if_neg (fun z => by have z2 : x_cnd .eq x 0 := (x_cdc_iff .eq x 0).mp z; first | exact hc z2 | exact z2 hc)] at kk
          exact kk
      case ne =>
        refine lv_if_ne hx hb hd ht (fun hc => ?_) (fun hc => ?_)
        · have kk := kk H locs ls hW hS hL
          rw [if_pos ((x_cdc_iff .ne x 0).mpr hc)] at kk
          exact kk
        · have kk := kk H locs ls hW hS hL
          rw [if_neg (fun z => by have z2 : x_cnd .ne x 0 := (x_cdc_iff .ne x 0).mp z; first | exact hc z2 | exact z2 hc)] at kk
          exact kk
      case lt =>
        refine lv_if_lt hx hb hd ht (fun hc => ?_) (fun hc => ?_)
        · have kk := kk H locs ls hW hS hL
          rw [if_pos ((x_cdc_iff .lt x 0).mpr hc)] at kk
          exact kk
        · have kk := kk H locs ls hW hS hL
          rw [if_neg (fun z => by have z2 : x_cnd .lt x 0 := (x_cdc_iff .lt x 0).mp z; first | exact hc z2 | exact z2 hc)] at kk
          exact kk
      case ge =>
        refine lv_if_ge hx hb hd ht (fun hc => ?_) (fun hc => ?_)
        · have kk := kk H locs ls hW hS hL
          rw [if_pos ((x_cdc_iff .ge x 0).mpr hc)] at kk
          exact kk
        · have kk := kk H locs ls hW hS hL
          rw [if_neg (fun z => by have z2 : x_cnd .ge x 0 := (x_cdc_iff .ge x 0).mp z; first | exact hc z2 | exact z2 hc)] at kk
          exact kk
      case gt =>
        refine lv_if_gt hx hb hd ht (fun hc => ?_) (fun hc => ?_)
        · have kk := kk H locs ls hW hS hL
          rw [if_pos ((x_cdc_iff .gt x 0).mpr hc)] at kk
          exact kk
        · have kk := kk H locs ls hW hS hL
          rw [if_neg (fun z => by have z2 : x_cnd .gt x 0 := (x_cdc_iff .gt x 0).mp z; first | exact hc z2 | exact z2 hc)] at kk
          exact kk
      case le =>
        refine lv_if_le hx hb hd ht (fun hc => ?_) (fun hc => ?_)
        · have kk := kk H locs ls hW hS hL
          rw [if_pos ((x_cdc_iff .le x 0).mpr hc)] at kk
          exact kk
        · have kk := kk H locs ls hW hS hL
          rw [if_neg (fun z => by have z2 : x_cnd .le x 0 := (x_cdc_iff .le x 0).mp z; first | exact hc z2 | exact z2 hc)] at kk
          exact kk
    · cases hf
  case if_icmp cd off =>
    obtain ⟨hn, hd, hv⟩ := x_ok_spec hok (by intro z; cases z) (by intro _ _ _ _ z; cases z)
    subst hn
    simp only [x_fun] at hf
    split at hf
    · rename_i y x r
      cases hf
      have ht : (pc : Int) + off = (a : Int) := of_decide_eq_true hv
      cases cd
      case eq =>
        refine lv_icmp_eq hx hb hd ht (fun hc => ?_) (fun hc => ?_)
        · have kk := kk H locs ls hW hS hL
          rw [if_pos ((x_cdc_iff .eq x y).mpr hc)] at kk
          exact kk
        · have kk := kk H locs ls hW hS hL
          rw [if_neg (fun z => by have z2 : x_cnd .eq x y := (x_cdc_iff .eq x y).mp z; first | exact hc z2 | exact z2 hc)] at kk
          exact kk
      case ne =>
        refine lv_icmp_ne hx hb hd ht (fun hc => ?_) (fun hc => ?_)
        · have kk := kk H locs ls hW hS hL
          rw [if_pos ((x_cdc_iff .ne x y).mpr hc)] at kk
          exact kk
        · have kk := kk H locs ls hW hS hL
          rw [if_neg (fun z => by have z2 : x_cnd .ne x y := (x_cdc_iff .ne x y).mp z; first | exact hc z2 | exact z2 hc)] at kk
          exact kk
      case lt =>
        refine lv_icmp_lt hx hb hd ht (fun hc => ?_) (fun hc => ?_)
        · have kk := kk H locs ls hW hS hL
          rw [if_pos ((x_cdc_iff .lt x y).mpr hc)] at kk
          exact kk
        · have kk := kk H locs ls hW hS hL
          rw [if_neg (fun z => by have z2 : x_cnd .lt x y := (x_cdc_iff .lt x y).mp z; first | exact hc z2 | exact z2 hc)] at kk
          exact kk
      case ge =>
        refine lv_icmp_ge hx hb hd ht (fun hc => ?_) (fun hc => ?_)
        · have kk := kk H locs ls hW hS hL
          rw [if_pos ((x_cdc_iff .ge x y).mpr hc)] at kk
          exact kk
        · have kk := kk H locs ls hW hS hL
          rw [if_neg (fun z => by have z2 : x_cnd .ge x y := (x_cdc_iff .ge x y).mp z; first | exact hc z2 | exact z2 hc)] at kk
          exact kk
      case gt =>
        refine lv_icmp_gt hx hb hd ht (fun hc => ?_) (fun hc => ?_)
        · have kk := kk H locs ls hW hS hL
          rw [if_pos ((x_cdc_iff .gt x y).mpr hc)] at kk
          exact kk
        · have kk := kk H locs ls hW hS hL
          rw [if_neg (fun z => by have z2 : x_cnd .gt x y := (x_cdc_iff .gt x y).mp z; first | exact hc z2 | exact z2 hc)] at kk
          exact kk
      case le =>
        refine lv_icmp_le hx hb hd ht (fun hc => ?_) (fun hc => ?_)
        · have kk := kk H locs ls hW hS hL
          rw [if_pos ((x_cdc_iff .le x y).mpr hc)] at kk
          exact kk
        · have kk := kk H locs ls hW hS hL
          rw [if_neg (fun z => by have z2 : x_cnd .le x y := (x_cdc_iff .le x y).mp z; first | exact hc z2 | exact z2 hc)] at kk
          exact kk
    · cases hf
  case getstatic =>
    obtain ⟨hn, hd, hv⟩ := x_ok_spec hok (by intro z; cases z) (by intro _ _ _ _ z; cases z)
    subst hn
    cases hf
    have kk := kk H locs ls hW hS hL
    refine va_gets hx hb hRO.2.2.1 hS hown (hts _ (x_lk_in hv)) (fun _ h9 => h9) hd ?_
    simp only [List.map_cons, x_cv, x_ad_1] at kk
    exact kk
  case getfield =>
    obtain ⟨hn, hd, hv⟩ := x_ok_spec hok (by intro z; cases z) (by intro _ _ _ _ z; cases z)
    subst hn
    obtain ⟨aa, r, fs, v, rfl, h1, h2, h3⟩ := x_get_inv hf
    cases h3
    obtain ⟨C, T, N, hc, hkN, hl, -⟩ := x_okF_inv hv
    obtain ⟨ty, lf, -, -, -, -, -, hw, -, -⟩ := x_CI_at hc
    exact va_get hx hb hts hw hown hK hW.2.2 aa (x_W_at h1) hc b hkN (hts _ hl) (fun _ h9 => h9) (v := x_cv g v) (by simp [h2]) hd (kk H locs ls hW hS hL)
  case putfield =>
    obtain ⟨hn, hd, hv⟩ := x_ok_spec hok (by intro z; cases z) (by intro _ _ _ _ z; cases z)
    subst hn
    obtain ⟨aa, r, fs, v, ty, rfl, h1, h2, h3, h4, h5, h6⟩ := x_put_inv hf
    cases h6
    obtain ⟨C, T, N, hc, hkN, hl, hfin⟩ := x_okF_inv hv
    obtain ⟨ty0, lf, e1, e2, e3, e4, e5, hw, -, -⟩ := x_CI_at hc
    have ety : ty0 b = ty := by
      have e6 := e3 b hkN
      unfold x_ft at h2
      rw [e1] at h2
      simp only at h2
      rw [h2] at e6
      exact (Option.some.inj e6).symm
    have ess := x_ss_set (e' := .inr (ci, fs.set b v)) h1 (by simp [x_sse])
    refine x_Wput hx hb hts hw ty0 e4 e5 hown hK hW hS h1 hc b hkN (hts _ hl) (fun hz => ?_) (v0 := v) (by rw [ety]; exact x_narrow h4 (x_fts_kind h2)) (by rw [ety]; exact x_fits h4) rfl h3 hd (fun H1 locs1 hW1 hS1 => ?_)
    · have e7 : x_fin ci b = true := by unfold x_fin; rw [hc]; exact hz
      exact ⟨hin (by simpa using h5 e7), hfin rfl hz⟩
    · have k1 := kk H1 locs1 ls hW1 hS1 hL
      simp only [List.length_set, ess] at k1
      exact k1
  case iaload =>
    obtain ⟨hn, hd, hv⟩ := x_ok_spec hok (by intro z; cases z) (by intro _ _ _ _ z; cases z)
    subst hn
    obtain ⟨i, aa, r, x, rfl, h2, h3⟩ := x_iald_inv hf
    cases h2
    have k1 := kk H locs ls hW hS hL
    rcases h3 with ⟨rfl, h4, rfl⟩ | ⟨rfl, h4, rfl⟩ | ⟨mm, ff, h1, h4, rfl⟩
    · have e1 : x_cv g (.ref 1000) = .ref g.2.1 := by simp only [x_cv, x_ad_0]
      simp only [List.map_cons, e1]
      obtain ⟨scr, z1, -⟩ := id hRO.1
      exact va_sld hx hb hRO.1 (Array.getElem?_eq_some_iff.mp z1).1 (Nat.not_le.mpr hRO.2.1) hS h4 hd k1
    · have e1 : x_cv g (.ref 1001) = .ref g.2.2.1 := by simp only [x_cv, x_ad_1]
      simp only [List.map_cons, e1]
      obtain ⟨cell, z1, z2, z3, z4, z5, z6, z7⟩ := hRO.2.2.2
      have hlt : i.toNatClampNeg < 6 := Nat.not_le.mp fun z => h4 (Or.inr z)
      exact W.iald (v := .int (x_let i.toNatClampNeg)) hx hb (by rw [hS.2.1 _ (Array.getElem?_eq_some_iff.mp z1).1 z7]; exact z1) z2 z3 (fun z => z.elim (fun y => h4 (Or.inl y)) (fun y => by omega)) (z6 _ hlt) rfl rfl hd k1
    · exact va_iald hx hb hK hW.2.2 aa 0 (x_W_at h1) rfl h4 hd k1
  case iastore =>
    obtain ⟨hn, hd, hv⟩ := x_ok_spec hok (by intro z; cases z) (by intro _ _ _ _ z; cases z)
    subst hn
    obtain ⟨x, i, aa, r, mm, ff, rfl, h1, h4, h2⟩ := x_iast_inv hf
    cases h2
    have ess := x_ss_set (e' := .inl (0, mm, .inl (upd ff i.toNatClampNeg x))) h1 rfl
    refine x_Wiast hx hb hK hW hS h1 h4 hd (fun H1 locs1 hW1 hS1 => ?_)
    have k1 := kk H1 locs1 ls hW1 hS1 hL
    simp only [List.length_set, ess] at k1
    exact k1
  case laload =>
    obtain ⟨hn, hd, hv⟩ := x_ok_spec hok (by intro z; cases z) (by intro _ _ _ _ z; cases z)
    subst hn
    obtain ⟨i, aa, r, mm, ff, rfl, h1, h4, h2⟩ := x_lald_inv hf
    cases h2
    exact va_lald hx hb hK hW.2.2 aa 1 (x_W_at h1) rfl h4 hd (kk H locs ls hW hS hL)
  case lastore =>
    obtain ⟨hn, hd, hv⟩ := x_ok_spec hok (by intro z; cases z) (by intro _ _ _ _ z; cases z)
    subst hn
    obtain ⟨x, i, aa, r, mm, ff, rfl, h1, h4, h2⟩ := x_last_inv hf
    cases h2
    have ess := x_ss_set (e' := .inl (1, mm, .inr (.inl (vp_updL ff i.toNatClampNeg x)))) h1 rfl
    refine x_Wlast hx hb hK hW hS h1 h4 hd (fun H1 locs1 hW1 hS1 => ?_)
    have k1 := kk H1 locs1 ls hW1 hS1 hL
    simp only [List.length_set, ess] at k1
    exact k1
  case aaload =>
    obtain ⟨hn, hd, hv⟩ := x_ok_spec hok (by intro z; cases z) (by intro _ _ _ _ z; cases z)
    subst hn
    obtain ⟨i, aa, r, t, mm, ff, rfl, h1, h4, ⟨cc, h5⟩, h2⟩ := x_aald_inv hf
    cases h2
    have k1 := kk H locs ls hW hS hL
    simp only [List.map_cons, x_cv_rf] at k1
    have ht : ∃ C, (x_tys g)[t]? = some (g.2.2.2 t, .object C) := by
      unfold x_acl at h5
      split at h5 <;> first | exact ⟨_, rfl⟩ | cases h5
    obtain ⟨C, ht⟩ := ht
    exact va_aldq hx hb hK hW.2.2 aa t (x_W_at h1) ht h4 hd k1
  case aastore =>
    obtain ⟨hn, hd, hv⟩ := x_ok_spec hok (by intro z; cases z) (by intro _ _ _ _ z; cases z)
    subst hn
    obtain ⟨v, i, aa, r, t, mm, ff, cc, vs, rfl, h1, h3, h4, h5, h2⟩ := x_aast_inv hf
    cases h2
    have ess := x_ss_set (e' := .inl (t, mm, .inr (.inr (.inr (.inr (va_up ff i.toNatClampNeg (some v))))))) h1 rfl
    have ht : ∃ r1 : vw_C, vwCl[cc]? = some r1 ∧ (x_tys g)[t]? = some (g.2.2.2 t, .object r1.1) := by
      unfold x_acl at h5
      split at h5 <;> first | (cases h5; exact ⟨_, rfl, rfl⟩) | cases h5
    obtain ⟨r1, hc1, ht1⟩ := ht
    refine x_Waast hx hb hK hW hS h1 ht1 h3 hc1 h4 hd (fun H1 locs1 hW1 hS1 => ?_)
    have k1 := kk H1 locs1 ls hW1 hS1 hL
    simp only [List.length_set, ess] at k1
    exact k1
  case arraylength =>
    obtain ⟨hn, hd, hv⟩ := x_ok_spec hok (by intro z; cases z) (by intro _ _ _ _ z; cases z)
    subst hn
    obtain ⟨aa, r, x, rfl, h2, h3⟩ := x_alen_inv hf
    cases h2
    have k1 := kk H locs ls hW hS hL
    rcases h3 with ⟨rfl, rfl⟩ | ⟨rfl, rfl⟩ | ⟨t, y, h1, h4⟩
    · have e1 : x_cv g (.ref 1000) = .ref g.2.1 := by simp only [x_cv, x_ad_0]
      simp only [List.map_cons, e1]
      obtain ⟨scr, z1, -⟩ := id hRO.1
      exact va_slen hx hb hRO.1 (Array.getElem?_eq_some_iff.mp z1).1 (Nat.not_le.mpr hRO.2.1) hS hd k1
    · have e1 : x_cv g (.ref 1001) = .ref g.2.2.1 := by simp only [x_cv, x_ad_1]
      simp only [List.map_cons, e1]
      obtain ⟨cell, z1, z2, z3, z4, z5, z6, z7⟩ := hRO.2.2.2
      exact W.alen (n := Int32.ofNat 6) hx hb (by rw [hS.2.1 _ (Array.getElem?_eq_some_iff.mp z1).1 z7]; exact z1) z2 z5 rfl rfl hd k1
    · have ht : ∃ ty, (x_tys g)[t]? = some (g.2.2.2 t, ty) := by
        clear k1 h1 hr
        have key : ∀ t : Nat, t < 5 → t = 0 ∨ t = 1 ∨ t = 2 ∨ t = 3 ∨ t = 4 := by
          intro t ht
          omega
        rcases key t h4 with rfl | rfl | rfl | rfl | rfl <;> exact ⟨_, rfl⟩
      obtain ⟨ty, ht⟩ := ht
      have e2 : ∃ y2, x_ce g (.inl (t, x, y)) = .inl (g.2.2.2 t, x, y2) := by
        rcases y with y | y | y | y | y <;> exact ⟨_, rfl⟩
      obtain ⟨y2, e2⟩ := e2
      have hat := x_W_at (g := g) h1
      rw [e2] at hat
      exact va_alen hx hb hK hW.2.2 aa t hat ht rfl hd k1
  case new =>
    obtain ⟨hn, hd, hv⟩ := x_ok_spec hok (by intro z; cases z) (by intro _ _ _ _ z; cases z)
    subst hn
    obtain ⟨lf, h1, h3, h2⟩ := x_newo_inv hf
    cases h2
    simp only [x_okX] at hv
    split at hv
    · rename_i qc hc
      obtain ⟨C, T, N⟩ := qc
      obtain ⟨ty0, lf2, e1, e2, e3, e4, e5, hw, hi1, hi2⟩ := x_CI_at hc
      cases h1.symm.trans e1
      have k1 := fun H1 hW1 hS1 => kk H1 locs ls hW1 hS1 hL
      have z1 : (h ++ [(.inr (ci, lf.map x_def) : va_E)]).length - k0 = h.length - k0 + 1 := by simp; omega
      have z2 : x_ss (h ++ [.inr (ci, lf.map x_def)]) - s0 = x_ss h - s0 + N := by
        rw [x_ss_app]
        have : x_sse (.inr (ci, lf.map x_def)) = N := by simp [x_sse]; exact e2
        omega
      simp only [z1, z2] at k1 hr
      refine x_Wnew hx hb hts hw ty0 e4 hown (hts _ (x_lk_in hv)) (hts _ hi1) (hts _ hi2) hK hW hS hc (fs := lf.map x_def) (fun j hj => ?_) h3 hr.1 hr.2 hd k1
      have e6 := e3 j hj
      have hkd := x_fts_kind (ci := ci) (k := j) (ty := ty0 j) (by unfold x_ft; rw [e1]; exact e6)
      have e7 : vp_V ((lf.map x_def).map (x_cv g)) j = x_cv g (x_def (ty0 j)) := by simp [vp_V, List.getD, e6]
      rw [e7]
      rcases hkd with hkd | hkd | hkd | ⟨_, hkd⟩ | ⟨_, hkd⟩ <;> rw [hkd] <;> rfl
    · cases hv
  case newarray t =>
    obtain ⟨hn, hd, hv⟩ := x_ok_spec hok (by intro z; cases z) (by intro _ _ _ _ z; cases z)
    subst hn
    cases t
    case int =>
      simp only [x_fun] at hf
      obtain ⟨i, r, rfl, h1, h3, h4, h2⟩ := x_newa_inv hf
      cases h2
      have k1 := fun H1 hW1 hS1 => kk H1 locs ls hW1 hS1 hL
      have z1 : (h ++ [(.inl (0, i.toNatClampNeg, .inl (fun _ => 0)) : va_E)]).length - k0 = h.length - k0 + 1 := by simp; omega
      have z2 : x_ss (h ++ [.inl (0, i.toNatClampNeg, .inl (fun _ => 0))]) - s0 = x_ss h - s0 + i.toNatClampNeg := by
        rw [x_ss_app]
        have : x_sse (.inl (0, i.toNatClampNeg, .inl (fun _ => 0))) = i.toNatClampNeg := rfl
        omega
      simp only [z1, z2] at k1 hr
      exact x_Wnewa (t := 0) (atype := .int) hx hb (hts _ x_wint) hK rfl hW hS (by rfl) h1 rfl (by show _ * 4 ≤ _; omega) h4 hr.1 hr.2 hd k1
    case long =>
      simp only [x_fun] at hf
      obtain ⟨i, r, rfl, h1, h3, h4, h2⟩ := x_newa_inv hf
      cases h2
      have k1 := fun H1 hW1 hS1 => kk H1 locs ls hW1 hS1 hL
      have z1 : (h ++ [(.inl (1, i.toNatClampNeg, .inr (.inl (fun _ => 0))) : va_E)]).length - k0 = h.length - k0 + 1 := by simp; omega
      have z2 : x_ss (h ++ [.inl (1, i.toNatClampNeg, .inr (.inl (fun _ => 0)))]) - s0 = x_ss h - s0 + i.toNatClampNeg := by
        rw [x_ss_app]
        have : x_sse (.inl (1, i.toNatClampNeg, .inr (.inl (fun _ => 0)))) = i.toNatClampNeg := rfl
        omega
      simp only [z1, z2] at k1 hr
      exact x_Wnewa (t := 1) (atype := .long) hx hb (hts _ x_wlong) hK rfl hW hS (by rfl) h1 rfl (by show _ * 8 ≤ _; omega) h4 hr.1 hr.2 hd k1
    all_goals exact absurd hf (fun z => by cases z)
  case anewarray idx =>
    obtain ⟨hn, hd, hv⟩ := x_ok_spec hok (by intro z; cases z) (by intro _ _ _ _ z; cases z)
    subst hn
    simp only [x_fun] at hf
    split at hf
    · cases hf
    · obtain ⟨i, r, rfl, h1, h3, h4, h2⟩ := x_newa_inv hf
      cases h2
      have k1 := fun H1 hW1 hS1 => kk H1 locs ls hW1 hS1 hL
      have z1 : (h ++ [(.inl (a, i.toNatClampNeg, .inr (.inr (.inr (.inr (fun _ => none))))) : va_E)]).length - k0 = h.length - k0 + 1 := by simp; omega
      have z2 : x_ss (h ++ [.inl (a, i.toNatClampNeg, .inr (.inr (.inr (.inr (fun _ => none)))))]) - s0 = x_ss h - s0 + i.toNatClampNeg := by
        rw [x_ss_app]
        have : x_sse (.inl (a, i.toNatClampNeg, .inr (.inr (.inr (.inr (fun _ => none)))))) = i.toNatClampNeg := rfl
        omega
      simp only [z1, z2] at k1 hr
      simp only [x_okX] at hv
      have key : ∃ C, x_lk pos (.classLink M.1.cls idx C) = true ∧ va_AO C s ∧ (x_tys g)[a]? = some (g.2.2.2 a, .object C) := by
        split at hv
        · rename_i cc hc
          unfold x_acl at hc
          split at hc
          · cases hc
            exact ⟨_, hv, hNW.2.1, rfl⟩
          · cases hc
            exact ⟨_, hv, hNW.2.2.1, rfl⟩
          · cases hc
            exact ⟨_, hv, hNW.2.2.2, rfl⟩
          · cases hc
        · cases hv
      obtain ⟨C, y1, y2, y3⟩ := key
      exact x_Wnewq hx hb hown (hts _ (x_lk_in y1)) y2 hK y3 hW hS h1 rfl (by omega) h4 hr.1 hr.2 hd k1
  case invokestatic =>
    obtain ⟨hn, hd, hv⟩ := x_ok_spec hok (by intro z; cases z) (by intro _ _ _ _ z; cases z)
    subst hn
    simp only [x_fun] at hf
    split at hf
    · rename_i h9
      subst h9
      obtain ⟨k, dp, a1, sp, a0, r, m0, f, m1, f1, rfl, y1, y2, y3, y4, y5, y6, y7, y8, h2⟩ := x_cpy_inv hf
      cases h2
      have ess := x_ss_set (e' := .inl (0, m1, .inl (va_cpy f f1 sp.toNatClampNeg dp.toNatClampNeg k.toNatClampNeg))) y2 rfl
      simp only [x_okX, if_true] at hv
      have hcat : (r.map (x_cv g)).map (fun v => v.category) = r.map (fun v => v.category) := by
        rw [List.map_map]
        congr 1
        funext v
        exact x_cat g v
      refine x_Wcopy hx hb (by rw [hml, ← hlen, hL.1]) hown (hts _ (x_lk_in hv)) (hts _ x_wnat) (hts _ x_wsta) (hts _ x_wsys) hK hW hS y1 y2 y3 y4 y5 y6 y7 hR.1 (by rw [hcat, show nativeFrameWords "java/lang/System" "arraycopy" 5 = 7 from by decide +kernel]; omega) hd (fun H1 locs1 hW1 hS1 => ?_)
      have k1 := kk H1 locs1 ls hW1 hS1 hL
      simp only [List.length_set, ess] at k1
      exact k1
    · obtain ⟨-, -, h2⟩ := x_call_inv hf
      cases h2
  case invokespecial =>
    obtain ⟨hn, hd, hv⟩ := x_ok_spec hok (by intro z; cases z) (by intro _ _ _ _ z; cases z)
    subst hn
    simp only [x_fun] at hf
    split at hf
    · rename_i h9
      subst h9
      obtain ⟨aa, r, rfl, y1, h2⟩ := x_oin_inv hf
      cases h2
      simp only [x_okX, if_true] at hv
      have hcat : (r.map (x_cv g)).map (fun v => v.category) = r.map (fun v => v.category) := by
        rw [List.map_map]
        congr 1
        funext v
        exact x_cat g v
      exact W.objInit hx hb hown (hts _ (x_lk_in hv)) (hts _ x_woin) (hts _ x_woco) rfl (by show ls.size = _; rw [hml, ← hlen, hL.1]) rfl hd hR.1 (by show 2 * 0 + _ + 12 ≤ _; rw [hcat]; omega) (kk H locs ls hW hS hL)
    · obtain ⟨_, -, h3⟩ := x_callI_inv hf
      obtain ⟨-, -, h2⟩ := x_call_inv h3
      cases h2
  case invokevirtual =>
    obtain ⟨_, _, -, -, h3⟩ := x_callV_inv hf
    obtain ⟨-, -, h2⟩ := x_call_inv h3
    cases h2
  case ireturn =>
    simp only [x_fun, x_ret] at hf
    split at hf
    · split at hf <;> cases hf
    · cases hf
  case lreturn =>
    simp only [x_fun, x_retL] at hf
    split at hf <;> cases hf
  case areturn =>
    simp only [x_fun, x_retA] at hf
    split at hf <;> cases hf
  case return_ =>
    simp only [x_fun, x_retV] at hf
    split at hf <;> cases hf
  all_goals exact absurd hf (fun z => by cases z)
end XStep
end
section
/-! A CALL OF OUR MACHINE IS A CONTRACT -/
theorem x_NW.same {U U' : State} (hvm : U'.vm = U.vm) (h : x_NW U) : x_NW U' := by
  obtain ⟨h1, h2, h3, h4⟩ := h
  have ha : U.vm.Alike U'.vm := by rw [hvm]; exact Vm.Alike.refl U.vm
  refine ⟨fun w hw => ?_, h2.moved ha, h3.moved ha, h4.moved ha⟩
  have h5 := h1 w hw
  have h6 := (List.mem_filter.mp hw).2
  cases w <;> first | (simp [x_isN] at h6; done) | exact va_tabs rfl hvm.symm h5
theorem x_blind {D : va_G} {g : XG} {X : XX} {as : List Value} {h : XH} : FrameBlind (x_Pc D g X as h) := by
  intro a U gf mk q
  obtain ⟨q0, q1, q2, q3, q4⟩ := q
  exact ⟨q0, q1, va_K.moved (u := U) (U := U.calling gf mk a) (Vm.Alike.refl U.vm) q2, x_RO.moved (u := U) (U := U.calling gf mk a) (Vm.Alike.refl U.vm) q3, x_NW.same (U := U) rfl q4⟩
section XSound
variable {p : Program} {l : Launch} {e : Env} {R : Room} {s : State} {m : MethodId} {args : Array Value} {below : List Frame} {meth : Method} {c : Code} {H : Heap} {locs : List Loc} {Q : State → Prop}
variable {M : XM} {D : va_G} {g : XG} {X : XX}
theorem x_goes {cells slots mc ms pc : Nat} {ls : Array Slot} {st0 rest : List Value} {a : Array Value} {r : Option Value} {h' : XH}
    (hr : va_Run p l e R s m args below meth c H locs cells slots mc ms (F0 m pc ls st0) rest (x_Qc D g r h' a) (x_A g)) (hS : va_S (x_A g) s.heap H locs)
    (kk : ∀ (H1 : Heap) (locs1 : List Loc), x_Wd D g h' H1 → va_S (x_A g) s.heap H1 locs1 → W p l e R s m args below meth c H1 locs1 (cells + mc) (slots + ms) Q (F0 m (pc + 3) ls ((r.map (x_cv g)).toList ++ rest))) : W p l e R s m args below meth c H locs cells slots Q (F0 m pc ls st0) := by
  intro T hT X
  obtain ⟨v, st₀, t, T', L, h0, X', hL, e1, e2, ⟨hv, hw, hz, hk⟩, st⟩ := hr T hT X
  cases hv
  rw [h0] at hz hk
  obtain ⟨t2, a1, b1⟩ := kk T'.heap (locs ++ L) (by rw [e1]; exact hw)
    ⟨Nat.le_trans hS.1 (by rw [e1]; exact hz), fun q h1 h2 => by rw [e1, hk q (Nat.lt_of_lt_of_le h1 hS.1) h2]; exact hS.2.1 q h1 h2, fun q hq => by
      rcases List.mem_append.mp hq with h | h
      · exact hS.2.2 q h
      · exact hL q h⟩ T' rfl X'
  exact ⟨t2, st t2 a1, b1⟩
theorem x_pre {h : XH} {as : List Value} (hK : va_K D vwCl (x_tys g) s) (hRO : x_RO g X s s.heap) (hNW : x_NW s) (hW : x_Wd D g h H) (hS : va_S (x_A g) s.heap H locs) : ∀ U : State, U.heap = H → s.WarmedH U.vm → x_Pc D g X as h (as.map (x_cv g)).toArray U := by
  intro U hU hWm
  refine ⟨rfl, by rw [hU]; exact hW, va_K.moved hWm.alike hK, ?_, hNW.warm hWm⟩
  have h1 := x_RO.moved (U := U) hWm.alike hRO
  rw [hU]
  exact h1.kept (fun a h2 h3 => hS.2.1 a h2 h3)
theorem x_gdIn {M : XM} (h : Jvm.Cond.code M.1 M.2.1 M.2.2.1 M.2.2.2.1 ∈ lw_gd) : GoodIn lw_gd (x_ws M) := by
  have key : ∀ w ∈ lw_gd, w ∈ lw_gd ∧ ((w.onTables && w.keeps) = true ∨ ∃ ty, w = .arrayClass ty) := fun w hw => ⟨hw, good_of_word (List.mem_filter.mp hw).2⟩
  intro w hw
  rcases List.mem_cons.mp hw with e | hw
  · rw [e]; exact key _ h
  · exact key w hw
theorem x_okM_inv {μ : Nat} {M : XM} (h : x_okM μ M = true) : ∃ pp, xP[μ]? = some pp ∧ Jvm.Cond.code M.1 M.2.1 M.2.2.1 M.2.2.2.1 ∈ lw_gd ∧ Jvm.Cond.initialized M.1.cls ∈ lw_gd ∧ M.1.cls ≠ "java/lang/invoke/MethodHandle" ∧ M.1.cls ≠ "java/lang/invoke/VarHandle" ∧ plainFor M.1 = true ∧ M.2.2.1 ≤ 13 := by
  unfold x_okM at h
  split at h
  · rename_i pp hp
    simp only [Bool.and_eq_true, decide_eq_true_eq] at h
    obtain ⟨h1, h2, h3, h4, h5, h6⟩ := h
    exact ⟨pp, hp, x_lk_in h1, x_lk_in h2, h3, h4, h5, h6⟩
  · cases h
theorem x_split : ∀ {b : Nat} {st : List Value} {v : Value}, st[b]? = some v → st = st.take b ++ v :: st.drop (b + 1) ∧ (st.take (b + 1)).reverse = v :: (st.take b).reverse
  | _, [], _, h => by simp at h
  | 0, u :: st, v, h => by
    simp at h
    subst h
    simp
  | b + 1, u :: st, v, h => by
    rw [List.getElem?_cons_succ] at h
    obtain ⟨h1, h2⟩ := x_split h
    constructor
    · simp only [List.take_succ_cons, List.drop_succ_cons, List.cons_append]
      rw [← h1]
    · rw [List.take_succ_cons, List.reverse_cons, h2, List.take_succ_cons, List.reverse_cons]
      rfl
theorem x_nxN {n : Nat} {L : XL} {h : XH} {o : Option (List Value)} {q : (Option Value × XH) ⊕ (Nat × List Value × List Value)} : ¬ x_nx n L h o = some (.inr q) := fun z => by
  obtain ⟨_, -, h2⟩ := x_nx_inv z
  cases h2
/-- only three instructions call, four return -/
theorem x_other {X : XX} {M : XM} {pc : Nat} {e : XE} {L : XL} {st : List Value} {h : XH} {q : (Option Value × XH) ⊕ (Nat × List Value × List Value)} (hf : x_fun X M pc e L st h = some (.inr q)) : (∃ i, e.1 = .invokestatic i) ∨ (∃ i, e.1 = .invokespecial i) ∨ (∃ i, e.1 = .invokevirtual i) ∨ ((e.1 = .ireturn ∨ e.1 = .lreturn ∨ e.1 = .areturn ∨ e.1 = .return_) ∧ ∃ r, q = .inl (r, h)) := by
  obtain ⟨ins, n, a, b, ci, pos⟩ := e
  cases ins
  case invokestatic i => exact Or.inl ⟨i, rfl⟩
  case invokespecial i => exact Or.inr (Or.inl ⟨i, rfl⟩)
  case invokevirtual i => exact Or.inr (Or.inr (Or.inl ⟨i, rfl⟩))
  case ireturn =>
    simp only [x_fun, x_ret] at hf
    split at hf
    · split at hf
      · cases hf
        exact Or.inr (Or.inr (Or.inr ⟨Or.inl rfl, _, rfl⟩))
      · cases hf
    · cases hf
  case lreturn =>
    simp only [x_fun, x_retL] at hf
    split at hf
    · cases hf
      exact Or.inr (Or.inr (Or.inr ⟨Or.inr (Or.inl rfl), _, rfl⟩))
    · cases hf
  case areturn =>
    simp only [x_fun, x_retA] at hf
    split at hf
    · cases hf
      exact Or.inr (Or.inr (Or.inr ⟨Or.inr (Or.inr (Or.inl rfl)), _, rfl⟩))
    · cases hf
      exact Or.inr (Or.inr (Or.inr ⟨Or.inr (Or.inr (Or.inl rfl)), _, rfl⟩))
    · cases hf
  case return_ =>
    simp only [x_fun, x_retV] at hf
    split at hf
    · cases hf
      exact Or.inr (Or.inr (Or.inr ⟨Or.inr (Or.inr (Or.inr rfl)), _, rfl⟩))
    · cases hf
  case iload => exact absurd hf x_nxN
  case iload_n => exact absurd hf x_nxN
  case lload => exact absurd hf x_nxN
  case lload_n => exact absurd hf x_nxN
  case aload => exact absurd hf x_nxN
  case aload_n => exact absurd hf x_nxN
  case iadd => exact absurd hf x_nxN
  case isub => exact absurd hf x_nxN
  case imul => exact absurd hf x_nxN
  case iand => exact absurd hf x_nxN
  case ior => exact absurd hf x_nxN
  case ixor => exact absurd hf x_nxN
  case ishl => exact absurd hf x_nxN
  case ishr => exact absurd hf x_nxN
  case iushr => exact absurd hf x_nxN
  case idiv => exact absurd hf x_nxN
  case irem => exact absurd hf x_nxN
  case ineg => exact absurd hf x_nxN
  case i2l => exact absurd hf x_nxN
  case i2b => exact absurd hf x_nxN
  case l2i => exact absurd hf x_nxN
  case ladd => exact absurd hf x_nxN
  case lmul => exact absurd hf x_nxN
  case ldiv => exact absurd hf x_nxN
  case lrem => exact absurd hf x_nxN
  case dup => exact absurd hf x_nxN
  case dup2 => exact absurd hf x_nxN
  case pop => exact absurd hf x_nxN
  case istore =>
    obtain ⟨_, _, _, -, -, h2⟩ := x_cI_inv hf
    cases h2
  case istore_n =>
    obtain ⟨_, _, _, -, -, h2⟩ := x_cI_inv hf
    cases h2
  case lstore =>
    obtain ⟨_, _, _, -, -, h2⟩ := x_cL_inv hf
    cases h2
  case lstore_n =>
    obtain ⟨_, _, _, -, -, h2⟩ := x_cL_inv hf
    cases h2
  case astore =>
    rcases x_cA_inv hf with ⟨_, _, _, -, -, h2⟩ | ⟨_, _, -, -, h2⟩ <;> cases h2
  case astore_n =>
    rcases x_cA_inv hf with ⟨_, _, _, -, -, h2⟩ | ⟨_, _, -, -, h2⟩ <;> cases h2
  case iinc =>
    obtain ⟨_, _, -, -, h2⟩ := x_inc_inv hf
    cases h2
  case getfield =>
    obtain ⟨_, _, _, _, -, -, -, h2⟩ := x_get_inv hf
    cases h2
  case putfield =>
    obtain ⟨_, _, _, _, _, -, -, -, -, -, -, h2⟩ := x_put_inv hf
    cases h2
  case iaload =>
    obtain ⟨_, _, _, _, -, h2, -⟩ := x_iald_inv hf
    cases h2
  case iastore =>
    obtain ⟨_, _, _, _, _, _, -, -, -, h2⟩ := x_iast_inv hf
    cases h2
  case laload =>
    obtain ⟨_, _, _, _, _, -, -, -, h2⟩ := x_lald_inv hf
    cases h2
  case lastore =>
    obtain ⟨_, _, _, _, _, _, -, -, -, h2⟩ := x_last_inv hf
    cases h2
  case aaload =>
    obtain ⟨_, _, _, _, _, _, -, -, -, -, h2⟩ := x_aald_inv hf
    cases h2
  case aastore =>
    obtain ⟨_, _, _, _, _, _, _, _, _, -, -, -, -, -, h2⟩ := x_aast_inv hf
    cases h2
  case arraylength =>
    obtain ⟨_, _, _, -, h2, -⟩ := x_alen_inv hf
    cases h2
  case new =>
    obtain ⟨_, -, -, h2⟩ := x_newo_inv hf
    cases h2
  case newarray t =>
    cases t
    case int =>
      simp only [x_fun] at hf
      obtain ⟨_, _, -, -, -, -, h2⟩ := x_newa_inv hf
      cases h2
    case long =>
      simp only [x_fun] at hf
      obtain ⟨_, _, -, -, -, -, h2⟩ := x_newa_inv hf
      cases h2
    all_goals exact absurd hf (fun z => by cases z)
  case anewarray =>
    simp only [x_fun] at hf
    split at hf
    · cases hf
    · obtain ⟨_, _, -, -, -, -, h2⟩ := x_newa_inv hf
      cases h2
  case lcmp =>
    simp only [x_fun] at hf
    split at hf <;> cases hf
  case ifCond =>
    simp only [x_fun] at hf
    split at hf <;> cases hf
  case if_icmp =>
    simp only [x_fun] at hf
    split at hf <;> cases hf
  case ifnull =>
    simp only [x_fun] at hf
    split at hf <;> cases hf
  case ifnonnull =>
    simp only [x_fun] at hf
    split at hf <;> cases hf
  case tableswitch =>
    simp only [x_fun] at hf
    split at hf
    · split at hf <;> cases hf
    · cases hf
  all_goals exact absurd hf (fun z => by cases z)
theorem x_fin_same {X : XX} {M : XM} {pc : Nat} {e : XE} {L : XL} {st : List Value} {h : XH} {q : Option Value × XH} (hf : x_fun X M pc e L st h = some (.inr (.inl q))) : q.2 = h := by
  rcases x_other hf with ⟨i, h1⟩ | ⟨i, h1⟩ | ⟨i, h1⟩ | ⟨-, r, h1⟩
  · obtain ⟨ins, n, a, b, ci, pos⟩ := e
    cases h1
    simp only [x_fun] at hf
    split at hf
    · obtain ⟨_, _, _, _, _, _, _, _, _, _, -, -, -, -, -, -, -, -, -, h2⟩ := x_cpy_inv hf
      cases h2
    · obtain ⟨-, -, h2⟩ := x_call_inv hf
      cases h2
  · obtain ⟨ins, n, a, b, ci, pos⟩ := e
    cases h1
    simp only [x_fun] at hf
    split at hf
    · obtain ⟨_, _, -, -, h2⟩ := x_oin_inv hf
      cases h2
    · obtain ⟨_, -, h3⟩ := x_callI_inv hf
      obtain ⟨-, -, h2⟩ := x_call_inv h3
      cases h2
  · obtain ⟨ins, n, a, b, ci, pos⟩ := e
    cases h1
    obtain ⟨_, _, -, -, h3⟩ := x_callV_inv hf
    obtain ⟨-, -, h2⟩ := x_call_inv h3
    cases h2
  · cases h1
    rfl
theorem x_nocall {X : XX} {M : XM} {pc n a b ci pos : Nat} {ins : Instr} {L : XL} {st : List Value} {h : XH} {q : Nat × List Value × List Value} (h1 : ∀ i, ins ≠ .invokestatic i) (h2 : ∀ i, ins ≠ .invokespecial i) (h3 : ∀ i, ins ≠ .invokevirtual i) : ¬ x_fun X M pc (ins, n, a, b, ci, pos) L st h = some (.inr (.inr q)) := by
  intro hf
  rcases x_other hf with ⟨i, h4⟩ | ⟨i, h4⟩ | ⟨i, h4⟩ | ⟨-, r, h4⟩
  · exact h1 i h4
  · exact h2 i h4
  · exact h3 i h4
  · cases h4
theorem x_noret {X : XX} {M : XM} {pc n a b ci pos : Nat} {ins : Instr} {L : XL} {st : List Value} {h : XH} {q : Option Value × XH} (h1 : ins ≠ .ireturn) (h2 : ins ≠ .lreturn) (h3 : ins ≠ .areturn) (h4 : ins ≠ .return_) : ¬ x_fun X M pc (ins, n, a, b, ci, pos) L st h = some (.inr (.inl q)) := by
  intro hf
  rcases x_other hf with ⟨i, h5⟩ | ⟨i, h5⟩ | ⟨i, h5⟩ | ⟨h5, -⟩
  · have h6 : ins = .invokestatic i := h5
    subst h6
    simp only [x_fun] at hf
    split at hf
    · obtain ⟨_, _, _, _, _, _, _, _, _, _, -, -, -, -, -, -, -, -, -, h2⟩ := x_cpy_inv hf
      cases h2
    · obtain ⟨-, -, h2⟩ := x_call_inv hf
      cases h2
  · have h6 : ins = .invokespecial i := h5
    subst h6
    simp only [x_fun] at hf
    split at hf
    · obtain ⟨_, _, -, -, h2⟩ := x_oin_inv hf
      cases h2
    · obtain ⟨_, -, h3⟩ := x_callI_inv hf
      obtain ⟨-, -, h2⟩ := x_call_inv h3
      cases h2
  · have h6 : ins = .invokevirtual i := h5
    subst h6
    obtain ⟨_, _, -, -, h3⟩ := x_callV_inv hf
    obtain ⟨-, -, h2⟩ := x_call_inv h3
    cases h2
  · rcases h5 with h5 | h5 | h5 | h5
    · exact h1 h5
    · exact h2 h5
    · exact h3 h5
    · exact h4 h5
/-- what a call's contract says -/
def x_Met (l : Launch) (D : va_G) (g : XG) (X : XX) (d μ : Nat) (as : List Value) (h : XH) (r : Option Value) (h' : XH) : Prop :=
  ∃ M, xT[μ]? = some M ∧ h.length ≤ h'.length ∧ x_ss h ≤ x_ss h' ∧ Met l M.1 (x_ws M) (x_rm d (h'.length - h.length) (x_ss h' - x_ss h)) (x_Pc D g X as h) (x_Qc D g r h') (h'.length - h.length) (x_ss h' - x_ss h) (x_A g)
set_option maxHeartbeats 4000000 in
/-- a call's step -/
theorem x_cstep {μ d pc n a b ci pos k0 s0 : Nat} {ins : Instr} {L : XL} {st st' as : List Value} {h h1 : XH} {r1 : Option Value} {ls : Array Slot} (C0 : x_Ctx p s m args meth c M D g X) (hR : d + 2 ≤ R.frames ∧ 32 * (d + 1) + 40 ≤ R.locals) (hok : x_okE M pc (ins, n, a, b, ci, pos) = true) (hf : x_fun X M pc (ins, n, a, b, ci, pos) L st h = some (.inr (.inr (μ, as, st')))) (hc : x_Met l D g X d μ as h r1 h1) (hW : x_Wd D g h H) (hS : va_S (x_A g) s.heap H locs) (hL : x_LR g ls L) (hlen : L.length = M.2.2.1) (hk : k0 ≤ h.length) (hs : s0 ≤ x_ss h) (hr : h1.length - k0 ≤ R.cells ∧ x_ss h1 - s0 ≤ R.slots)
    (kk : ∀ (H1 : Heap) (locs1 : List Loc), x_Wd D g h1 H1 → va_S (x_A g) s.heap H1 locs1 → W p l e R s m args below meth c H1 locs1 (h1.length - k0) (x_ss h1 - s0) Q (F0 m n ls ((r1.toList ++ st').map (x_cv g)))) : W p l e R s m args below meth c H locs (h.length - k0) (x_ss h - s0) Q (F0 m pc ls (st.map (x_cv g))) := by
  obtain ⟨hx, hb, hml, hown, hts, hK, hRO, hNW, hin⟩ := C0
  obtain ⟨M', hM', g1, g2, hMet⟩ := hc
  obtain ⟨-, hokM⟩ := xT_at hM'
  obtain ⟨pp, hpp, w1, w2, w3, w4, w5, w6⟩ := x_okM_inv hokM
  have hsz : ls.size = M.2.2.1 := by rw [hL.1, hlen]
  have hgd := x_gdIn w1
  have hroom : (x_rm d (h1.length - h.length) (x_ss h1 - x_ss h)).frames + 1 ≤ R.frames ∧ 8 + (M'.2.2.1 + 11) + (x_rm d (h1.length - h.length) (x_ss h1 - x_ss h)).locals ≤ R.locals := ⟨hR.1, by show 8 + (M'.2.2.1 + 11) + (32 * d + 40) ≤ _; omega⟩
  have hfit : h.length - k0 + (h1.length - h.length) ≤ R.cells ∧ x_ss h - s0 + (x_ss h1 - x_ss h) ≤ R.slots := ⟨by omega, by omega⟩
  have z1 : h1.length - k0 = h.length - k0 + (h1.length - h.length) := by omega
  have z2 : x_ss h1 - s0 = x_ss h - s0 + (x_ss h1 - x_ss h) := by omega
  rw [z1, z2] at kk
  have hmap : (r1.toList ++ st').map (x_cv g) = (r1.map (x_cv g)).toList ++ st'.map (x_cv g) := by cases r1 <;> simp
  rw [hmap] at kk
  have hcat : ∀ r : List Value, (r.map (x_cv g)).map (fun v => v.category) = r.map (fun v => v.category) := by
    intro r
    rw [List.map_map]
    congr 1
    funext v
    exact x_cat g v
  have hpre := x_pre (as := as) hK hRO hNW hW hS
  have hpar : ∀ b : Nat, x_npar M'.1 b = true → M'.1.cls ≠ "java/lang/invoke/MethodHandle" ∧ M'.1.cls ≠ "java/lang/invoke/VarHandle" ∧ (parseMethodDescriptor M'.1.desc).map (fun d => d.parameters.length) = some b := fun b hb => ⟨w3, w4, of_decide_eq_true hb⟩
  cases ins
  case invokestatic idx =>
    obtain ⟨hn, hd, hv⟩ := x_ok_spec hok (by intro z; cases z) (by intro _ _ _ _ z; cases z)
    subst hn
    simp only [x_fun] at hf
    simp only [x_okX] at hv
    split at hf
    · obtain ⟨_, _, _, _, _, _, _, _, _, _, -, -, -, -, -, -, -, -, -, h2⟩ := x_cpy_inv hf
      cases h2
    · rename_i hne
      rw [if_neg hne] at hv
      obtain ⟨y1, y2, y3⟩ := x_call_inv hf
      cases y3
      rw [hM', hpp] at hv
      simp only [Bool.and_eq_true, Bool.or_eq_true] at hv
      obtain ⟨v1, v2, v3⟩ := hv
      have hst : st.map (x_cv g) = ((st.take b).reverse.map (x_cv g)).reverse ++ (st.drop b).map (x_cv g) := by
        rw [← List.map_reverse, List.reverse_reverse, ← List.map_append, List.take_append_drop]
      have hnl : ((st.take b).reverse.map (x_cv g)).length = b := by simp; omega
      have hwd : 2 * (F0 m pc ls (st.map (x_cv g))).monitorRoom + (((st.drop b).map (x_cv g)).map fun v => v.category).sum ≤ 8 := lv_room (by rw [hcat]; exact y2)
      rcases v1 with v1 | v1
      · exact x_goes (va_runS (As := (st.take b).reverse.map (x_cv g)) (rest := (st.drop b).map (x_cv g)) ⟨hx, hb, hml, hown, hts⟩ hMet ⟨callB_of b hts hgd rfl rfl rfl (hts _ w2) (hts _ (x_lk_in v1)) (hpar b v3) hroom, hts _ (x_lk_in v2)⟩ ⟨x_blind, hpre⟩ rfl hnl hsz hst hwd hd hfit) hS kk
      · exact x_goes (va_runSN (As := (st.take b).reverse.map (x_cv g)) (rest := (st.drop b).map (x_cv g)) ⟨hx, hb, hml, hown, hts⟩ hMet ⟨va_cnB b hts hgd rfl rfl rfl (hNW.1 _ (x_lkN_in v1)) (hts _ w2) (hpar b v3) hroom, hts _ (x_lk_in v2), trivial⟩ ⟨x_blind, hpre⟩ rfl hnl hsz hst hwd hd hfit) hS kk
  case invokespecial idx =>
    obtain ⟨hn, hd, hv⟩ := x_ok_spec hok (by intro z; cases z) (by intro _ _ _ _ z; cases z)
    subst hn
    simp only [x_fun] at hf
    simp only [x_okX] at hv
    split at hf
    · obtain ⟨_, _, -, -, h2⟩ := x_oin_inv hf
      cases h2
    · rename_i hne
      rw [if_neg hne] at hv
      obtain ⟨aa, hrec, hf⟩ := x_callI_inv hf
      obtain ⟨y1, y2, y3⟩ := x_call_inv hf
      cases y3
      rw [hM', hpp] at hv
      simp only [Bool.and_eq_true, Bool.or_eq_true, decide_eq_true_eq] at hv
      obtain ⟨v1, v2, v3, v4, v5⟩ := hv
      obtain ⟨q1, q2⟩ := x_split hrec
      rw [q2] at hMet hpre
      have hst : st.map (x_cv g) = ((st.take b).reverse.map (x_cv g)).reverse ++ .ref (x_ad g aa) :: (st.drop (b + 1)).map (x_cv g) := by
        rw [← List.map_reverse, List.reverse_reverse]
        conv => lhs; rw [q1]
        simp [x_cv]
      have hnl : ((st.take b).reverse.map (x_cv g)).length = b := by simp; omega
      have hwd : 2 * (F0 m pc ls (st.map (x_cv g))).monitorRoom + (((st.drop (b + 1)).map (x_cv g)).map fun v => v.category).sum ≤ 8 := lv_room (by rw [hcat]; exact y2)
      have hws : x_ws M' = Jvm.Cond.code M'.1 M'.2.1 M'.2.2.1 none :: lw_gd := by unfold x_ws; rw [v5]
      rcases v1 with v1 | v1
      · exact x_goes (va_runI (b := x_ad g aa) (As := (st.take b).reverse.map (x_cv g)) (rest := (st.drop (b + 1)).map (x_cv g)) ⟨hx, hb, hml, hown, hts⟩ hMet ⟨callB_of b hts hgd hws rfl rfl (hts _ w2) (hts _ (x_lk_in v1)) (hpar b v3) hroom, v4, hts _ (x_lk_in v2)⟩ ⟨x_blind, hpre⟩ rfl hnl hsz hst hwd hd hfit) hS kk
      · exact x_goes (va_runIN (b := x_ad g aa) (As := (st.take b).reverse.map (x_cv g)) (rest := (st.drop (b + 1)).map (x_cv g)) ⟨hx, hb, hml, hown, hts⟩ hMet ⟨va_cnB b hts hgd hws rfl rfl (hNW.1 _ (x_lkN_in v1)) (hts _ w2) (hpar b v3) hroom, v4, hts _ (x_lk_in v2)⟩ ⟨x_blind, hpre⟩ rfl hnl hsz hst hwd hd hfit) hS kk
  case invokevirtual idx =>
    obtain ⟨hn, hd, hv⟩ := x_ok_spec hok (by intro z; cases z) (by intro _ _ _ _ z; cases z)
    subst hn
    obtain ⟨aa, fs, hrec, hcell, hf⟩ := x_callV_inv hf
    obtain ⟨y1, y2, y3⟩ := x_call_inv hf
    cases y3
    simp only [x_okX] at hv
    rw [hM', hpp] at hv
    split at hv
    · rename_i M2 p2 qc hM2 hp2 hqc
      cases hM2
      cases hp2
      simp only [Bool.and_eq_true, decide_eq_true_eq] at hv
      obtain ⟨v1, v2, v3, v4, v5⟩ := hv
      obtain ⟨q1, q2⟩ := x_split hrec
      rw [q2] at hMet hpre
      have hst : st.map (x_cv g) = ((st.take b).reverse.map (x_cv g)).reverse ++ .ref (x_ad g aa) :: (st.drop (b + 1)).map (x_cv g) := by
        rw [← List.map_reverse, List.reverse_reverse]
        conv => lhs; rw [q1]
        simp [x_cv]
      have hnl : ((st.take b).reverse.map (x_cv g)).length = b := by simp; omega
      have hwd : 2 * (F0 m pc ls (st.map (x_cv g))).monitorRoom + (((st.drop (b + 1)).map (x_cv g)).map fun v => v.category).sum ≤ 8 := lv_room (by rw [hcat]; exact y2)
      exact x_goes (va_runV (C := qc.1) (b := x_ad g aa) (As := (st.take b).reverse.map (x_cv g)) (rest := (st.drop (b + 1)).map (x_cv g)) ⟨hx, hb, hml, hown, hts⟩ hMet ⟨callB_of b hts hgd rfl rfl rfl (hts _ w2) (hts _ (x_lk_in v1)) (hpar b v4) hroom, hts _ (x_lk_in v2), hts _ (x_lk_in v3)⟩ ⟨x_blind, va_recv hK hW.2.2 (q0 := aa) hqc (x_W_at hcell), hpre⟩ rfl hnl hsz hst hwd hd hfit) hS kk
    · cases hv
  all_goals exact absurd hf (x_nocall (by intro _ z; cases z) (by intro _ z; cases z) (by intro _ z; cases z))
theorem x_run_mono {call : Nat → List Value → XH → Option Value → XH → Prop} (hcall : ∀ μ as h r h', call μ as h r h' → h.length ≤ h'.length ∧ x_ss h ≤ x_ss h') {r : Option Value} {h' : XH} : ∀ (n pc : Nat) (L : XL) (st : List Value) (h : XH), x_run X call M n pc L st h (fun r' h'' => r' = r ∧ h'' = h') → h.length ≤ h'.length ∧ x_ss h ≤ x_ss h' := by
  intro n
  induction n with
  | zero => intro pc L st h hr; exact hr.elim
  | succ n ih =>
    intro pc L st h hr
    obtain ⟨e1, he, hr⟩ := hr
    split at hr
    · rename_i q hq
      obtain ⟨-, h1, h2⟩ := x_mono hq
      obtain ⟨h3, h4⟩ := ih _ _ _ _ hr
      exact ⟨by omega, by omega⟩
    · rename_i q hq
      obtain ⟨-, h2⟩ := hr
      rw [← h2, x_fin_same hq]
      exact ⟨Nat.le_refl _, Nat.le_refl _⟩
    · rename_i q hq
      obtain ⟨r1, h1, hc, hr⟩ := hr
      obtain ⟨h3, h4⟩ := ih _ _ _ _ hr
      obtain ⟨h5, h6⟩ := hcall _ _ _ _ _ hc
      exact ⟨by omega, by omega⟩
    · exact hr.elim
/-- a run of our machine in a frame is a walk of the machine -/
theorem x_frame {d k0 s0 : Nat} {r : Option Value} {h' : XH} (IH : ∀ μ as h r h', x_ev X xT d μ as h r h' → x_Met l D g X d μ as h r h') (C0 : x_Ctx p s m args meth c M D g X) (hR : d + 2 ≤ R.frames ∧ 32 * (d + 1) + 40 ≤ R.locals) (hok : ∀ (pc : Nat) (e : XE), M.2.2.2.2[pc]? = some e → x_okE M pc e = true) (hcap : h'.length - k0 ≤ R.cells ∧ x_ss h' - s0 ≤ R.slots)
    (hret : ∀ (pc : Nat) (e0 : XE) (L : XL) (st : List Value), x_okE M pc e0 = true → x_fun X M pc e0 L st h' = some (.inr (.inl (r, h'))) → ∀ (H : Heap) (locs : List Loc) (ls : Array Slot), x_Wd D g h' H → va_S (x_A g) s.heap H locs → W p l e R s m args below meth c H locs (h'.length - k0) (x_ss h' - s0) Q (F0 m pc ls (st.map (x_cv g)))) :
    ∀ (n pc : Nat) (L : XL) (st : List Value) (h : XH), x_run X (x_ev X xT d) M n pc L st h (fun r' h'' => r' = r ∧ h'' = h') → ∀ (H : Heap) (locs : List Loc) (ls : Array Slot), x_Wd D g h H → va_S (x_A g) s.heap H locs → x_LR g ls L → L.length = M.2.2.1 → k0 ≤ h.length → s0 ≤ x_ss h → W p l e R s m args below meth c H locs (h.length - k0) (x_ss h - s0) Q (F0 m pc ls (st.map (x_cv g))) := by
  have hcm : ∀ μ as h r h', x_ev X xT d μ as h r h' → h.length ≤ h'.length ∧ x_ss h ≤ x_ss h' := by
    intro μ as h r h' he
    obtain ⟨_, -, h1, h2, -⟩ := IH μ as h r h' he
    exact ⟨h1, h2⟩
  intro n
  induction n with
  | zero => intro pc L st h hr; exact hr.elim
  | succ n ih =>
    intro pc L st h hr H locs ls hW hS hL hlen hk hs
    obtain ⟨e1, he, hr⟩ := hr
    split at hr
    · rename_i q hq
      obtain ⟨g1, g2, g3⟩ := x_mono hq
      obtain ⟨h3, h4⟩ := x_run_mono hcm _ _ _ _ _ hr
      exact x_step C0 ⟨by omega, by omega⟩ (hok pc e1 he) hq hW hS hL hlen hk hs ⟨by omega, by omega⟩ (fun H1 locs1 ls1 hW1 hS1 hL1 => ih _ _ _ _ hr H1 locs1 ls1 hW1 hS1 hL1 (by rw [g1]; exact hlen) (by omega) (by omega))
    · rename_i q hq
      obtain ⟨q1, q2⟩ := q
      obtain ⟨rfl, rfl⟩ := hr
      have e2 := x_fin_same hq
      simp only at e2
      subst e2
      exact hret pc e1 L st (hok pc e1 he) hq H locs ls hW hS
    · rename_i q hq
      obtain ⟨μ, as, st'⟩ := q
      obtain ⟨r1, h1, hc, hr⟩ := hr
      obtain ⟨h3, h4⟩ := x_run_mono hcm _ _ _ _ _ hr
      obtain ⟨h5, h6⟩ := hcm _ _ _ _ _ hc
      obtain ⟨ins, nx, a, b, ci, pos⟩ := e1
      exact x_cstep C0 hR (hok pc _ he) hq (IH _ _ _ _ _ hc) hW hS hL hlen hk hs ⟨by omega, by omega⟩ (fun H1 locs1 hW1 hS1 => ih _ _ _ _ hr H1 locs1 ls hW1 hS1 hL hlen (by omega) (by omega))
    · exact hr.elim
/-- a method's end -/
theorem x_rets {k0 s0 : Nat} {r : Option Value} {h' : XH} (hx : p.tables.exec = Jvm.exec) (hb : c.code = M.2.1) (hr : meth.sig.returnType = M.2.2.2.1) (hlocks : meth.locks = false) {pc : Nat} {e0 : XE} {L : XL} {st : List Value} (hok : x_okE M pc e0 = true) (hf : x_fun X M pc e0 L st h' = some (.inr (.inl (r, h')))) {ls : Array Slot} (hW : x_Wd D g h' H) (hS : va_S (x_A g) s.heap H locs) : W p l e R s m args below meth c H locs (h'.length - k0) (x_ss h' - s0) (MQ below (x_Qc D g r h') args s (h'.length - k0) (x_ss h' - s0) (x_A g)) (F0 m pc ls (st.map (x_cv g))) := by
  obtain ⟨ins, n, a, b, ci, pos⟩ := e0
  cases ins
  case ireturn =>
    obtain ⟨hn, hd, hv⟩ := x_ok_spec hok (by intro z; cases z) (by intro _ _ _ _ z; cases z)
    simp only [x_fun, x_ret] at hf
    split at hf
    · rename_i ty v hty
      split at hf
      · rename_i hnar
        cases hf
        exact W.zret hx hb (hr.trans hty) hnar (fun t ht hWm => ⟨rfl, by rw [ht]; exact hW, hS.F ht⟩) hS.2.2 hd
      · cases hf
    · cases hf
  case lreturn =>
    obtain ⟨hn, hd, hv⟩ := x_ok_spec hok (by intro z; cases z) (by intro _ _ _ _ z; cases z)
    simp only [x_fun, x_retL] at hf
    split at hf
    · rename_i v hty
      cases hf
      exact W.lret hx hb (hr.trans hty) (fun t ht hWm => ⟨rfl, by rw [ht]; exact hW, hS.F ht⟩) hS.2.2 hd
    · cases hf
  case areturn =>
    obtain ⟨hn, hd, hv⟩ := x_ok_spec hok (by intro z; cases z) (by intro _ _ _ _ z; cases z)
    simp only [x_fun, x_retA] at hf
    split at hf
    · rename_i nm v hty
      cases hf
      exact W.aret hx hb (hr.trans hty) (Or.inl ⟨_, rfl⟩) (Or.inr ⟨_, rfl⟩) (fun t ht hWm => ⟨rfl, by rw [ht]; exact hW, hS.F ht⟩) hS.2.2 hd
    · rename_i nm hty
      cases hf
      exact W.aret hx hb (hr.trans hty) (Or.inl ⟨_, rfl⟩) (Or.inl rfl) (fun t ht hWm => ⟨rfl, by rw [ht]; exact hW, hS.F ht⟩) hS.2.2 hd
    · cases hf
  case return_ =>
    obtain ⟨hn, hd, hv⟩ := x_ok_spec hok (by intro z; cases z) (by intro _ _ _ _ z; cases z)
    simp only [x_fun, x_retV] at hf
    split at hf
    · rename_i hty
      cases hf
      exact W.vret hx hb (hr.trans hty) (fun t ht hWm => ⟨rfl, by rw [ht]; exact hW, hS.F ht⟩) hS.2.2 hd
    · cases hf
  all_goals exact absurd hf (x_noret (by intro z; cases z) (by intro z; cases z) (by intro z; cases z) (by intro z; cases z))
theorem x_lgsl (g : XG) (as : List Value) : (lg_sl (as.map (x_cv g))).length = (as.flatMap x_exp).length := by
  induction as with
  | nil => rfl
  | cons v as ih =>
    have e1 : lg_sl (List.map (x_cv g) (v :: as)) = (if (x_cv g v).category = 2 then [.val (x_cv g v), .second] else [.val (x_cv g v)]) ++ lg_sl (as.map (x_cv g)) := by simp [lg_sl]
    rw [e1, List.length_append, ih, List.flatMap_cons, List.length_append, x_cat]
    unfold x_exp
    split <;> simp
theorem x_largs (g : XG) (N : Nat) : ∀ (as : List Value) (k i : Nat) (v : Value), (as.flatMap x_exp ++ List.replicate N none)[i]? = some (some v) → (k + i, x_cv g v) ∈ lv_args k (as.map (x_cv g))
  | [], k, i, v, h => by
    simp only [List.flatMap_nil, List.nil_append, List.getElem?_replicate] at h
    split at h <;> cases h
  | u :: as, k, i, v, h => by
    rw [List.flatMap_cons, List.append_assoc] at h
    simp only [List.map_cons, lv_args, x_cat]
    by_cases hc : u.category = 2
    · rw [show x_exp u = [some u, none] from if_pos hc] at h
      rw [if_pos hc]
      match i, h with
      | 0, h =>
        simp at h
        subst h
        exact List.mem_cons_self
      | 1, h => simp at h
      | i + 2, h =>
        simp at h
        have h2 := x_largs g N as (k + 2) i v (by simpa using h)
        rw [show k + (i + 2) = k + 2 + i by omega]
        exact List.mem_cons_of_mem _ h2
    · rw [show x_exp u = [some u] from if_neg hc] at h
      rw [if_neg hc]
      match i, h with
      | 0, h =>
        simp at h
        subst h
        exact List.mem_cons_self
      | i + 1, h =>
        simp at h
        have h2 := x_largs g N as (k + 1) i v (by simpa using h)
        rw [show k + (i + 1) = k + 1 + i by omega]
        exact List.mem_cons_of_mem _ h2
theorem x_LR_ent (g : XG) (as : List Value) (n : Nat) (h : (as.flatMap x_exp).length ≤ n) : x_LR g ((lg_sl (as.map (x_cv g)) ++ List.replicate (n - (lg_sl (as.map (x_cv g))).length) Slot.unset).toArray) (x_ent as n) := by
  have h1 := lv_entry (as.map (x_cv g)) (n := n) (by rw [x_lgsl]; exact h)
  refine ⟨?_, h1.2.1, fun i v hv => ?_⟩
  · rw [h1.1]
    unfold x_ent
    rw [List.length_append, List.length_replicate]
    omega
  · have h2 := x_largs g _ as 0 i v hv
    rw [Nat.zero_add] at h2
    exact h1.2.2 (i, x_cv g v) h2
theorem x_ent_len (as : List Value) (n : Nat) (h : (as.flatMap x_exp).length ≤ n) : (x_ent as n).length = n := by
  unfold x_ent
  rw [List.length_append, List.length_replicate]
  omega
end XSound
set_option maxHeartbeats 4000000 in
theorem x_sound (l : Launch) (D : va_G) (g : XG) (X : XX) : ∀ (d μ : Nat) (as : List Value) (h : XH) (r : Option Value) (h' : XH), x_ev X xT d μ as h r h' → x_Met l D g X d μ as h r h' := by
  intro d
  induction d with
  | zero => intro μ as h r h' he; exact he.elim
  | succ d IH =>
    intro μ as h r h' he
    obtain ⟨M, n, hM, hent, hrun⟩ := he
    obtain ⟨hok, hokM⟩ := xT_at hM
    obtain ⟨pp, hpp, w1, w2, w3, w4, w5, w6⟩ := x_okM_inv hokM
    have hcm : ∀ μ as h r h', x_ev X xT d μ as h r h' → h.length ≤ h'.length ∧ x_ss h ≤ x_ss h' := by
      intro μ as h r h' he
      obtain ⟨_, -, h1, h2, -⟩ := IH μ as h r h' he
      exact ⟨h1, h2⟩
    obtain ⟨m1, m2⟩ := x_run_mono hcm _ _ _ _ _ hrun
    refine ⟨M, hM, m1, m2, ?_⟩
    refine va_MetF (cc := M.2.1) (maxL := M.2.2.1) (ret := M.2.2.2.1) w5 rfl ?_
    intro p e s m args below meth c s₁ B hml hv
    obtain ⟨rfl, hWd, hK, hRO, hNW⟩ := hv
    have hts0 := atoms_spec (ws := x_ws M) B.pre
    have hts : ∀ w ∈ lw_gd, w.before (as.map (x_cv g)).toArray s = true := fun w hw => hts0 w (List.mem_cons_of_mem _ hw)
    have hown : s.vm.findClass M.1.cls = some m.cls := findClass_of_methodNamed B.named
    have hin : M.1.name = "<init>" → meth.name = "<init>" := fun h => (name_of_methodNamed B.named B.method).1.trans h
    rw [lg_entry_eq]
    have hS : va_S (x_A g) s.heap s.heap [] := va_S.rf
    have key := x_frame (l := l) (below := below) (Q := MQ below (x_Qc D g r h') (as.map (x_cv g)).toArray s (h'.length - h.length) (x_ss h' - x_ss h) (x_A g)) (R := (headSpec (x_ws M) (x_rm (d + 1) (h'.length - h.length) (x_ss h' - x_ss h))).room) (e := e) (k0 := h.length) (s0 := x_ss h) IH (⟨B.exec, B.bytes, hml, hown, hts, hK, hRO, hNW, hin⟩ : x_Ctx p s m (as.map (x_cv g)).toArray meth c M D g X) ⟨Nat.le_refl _, Nat.le_refl _⟩ hok ⟨Nat.le_refl _, Nat.le_refl _⟩ (fun pc e0 L st hk hf H locs ls hW hS => x_rets B.exec B.bytes B.returns B.notSynchronized hk hf hW hS) n 0 (x_ent as M.2.2.1) [] h hrun s.heap [] _ hWd hS (x_LR_ent g as M.2.2.1 hent) (x_ent_len as _ hent) (Nat.le_refl _) (Nat.le_refl _)
    rw [Nat.sub_self, Nat.sub_self] at key
    exact key
end
section
/-! RULES: how a method is walked in our machine -/
theorem x_run_call {X : XX} {M : XM} {c1 c2 : Nat → List Value → XH → Option Value → XH → Prop} (hc : ∀ μ as h r h', c1 μ as h r h' → c2 μ as h r h') {P : Option Value → XH → Prop} : ∀ (n pc : Nat) (L : XL) (st : List Value) (h : XH), x_run X c1 M n pc L st h P → x_run X c2 M n pc L st h P := by
  intro n
  induction n with
  | zero => intro pc L st h hr; exact hr.elim
  | succ n ih =>
    intro pc L st h hr
    obtain ⟨e, he, hr⟩ := hr
    refine ⟨e, he, ?_⟩
    split at hr
    · exact ih _ _ _ _ hr
    · exact hr
    · obtain ⟨r1, h1, h2, h3⟩ := hr
      exact ⟨r1, h1, hc _ _ _ _ _ h2, ih _ _ _ _ h3⟩
    · exact hr.elim
theorem x_ev_succ {X : XX} {T : List XM} : ∀ (d μ : Nat) (as : List Value) (h : XH) (r : Option Value) (h' : XH), x_ev X T d μ as h r h' → x_ev X T (d + 1) μ as h r h' := by
  intro d
  induction d with
  | zero => intro μ as h r h' he; exact he.elim
  | succ d ih =>
    intro μ as h r h' he
    obtain ⟨M, n, h1, h2, h3⟩ := he
    exact ⟨M, n, h1, h2, x_run_call ih n _ _ _ _ h3⟩
theorem x_ev_le {X : XX} {T : List XM} {d d' μ : Nat} {as : List Value} {h : XH} {r : Option Value} {h' : XH} (hd : d ≤ d') (he : x_ev X T d μ as h r h') : x_ev X T d' μ as h r h' := by
  induction hd with
  | refl => exact he
  | step _ ih => exact x_ev_succ _ _ _ _ _ _ ih
theorem x_det {X : XX} {M : XM} {call : Nat → List Value → XH → Option Value → XH → Prop} {P : Option Value → XH → Prop} : ∀ (n pc : Nat) (L : XL) (st : List Value) (h : XH), x_run X call M n pc L st h P → ∃ r h', P r h' ∧ x_run X call M n pc L st h (fun r' h'' => r' = r ∧ h'' = h') := by
  intro n
  induction n with
  | zero => intro pc L st h hr; exact hr.elim
  | succ n ih =>
    intro pc L st h hr
    obtain ⟨e, he, hr⟩ := hr
    split at hr
    · rename_i q hq
      obtain ⟨r, h', h1, h2⟩ := ih _ _ _ _ hr
      exact ⟨r, h', h1, e, he, by rw [hq]; exact h2⟩
    · rename_i q hq
      exact ⟨q.1, q.2, hr, e, he, by rw [hq]; exact ⟨rfl, rfl⟩⟩
    · rename_i q hq
      obtain ⟨r1, h1, h2, h3⟩ := hr
      obtain ⟨r, h', h4, h5⟩ := ih _ _ _ _ h3
      exact ⟨r, h', h4, e, he, by rw [hq]; exact ⟨r1, h1, h2, h5⟩⟩
    · exact hr.elim
theorem q_ev {X : XX} {d μ : Nat} {M : XM} {as : List Value} {h h' : XH} {r : Option Value} {L : XL} (hM : xT[μ]? = some M) (hl : (as.flatMap x_exp).length ≤ M.2.2.1) (hL : x_ent as M.2.2.1 = L) (k : Wp X xT d M 0 L [] h (fun r' h'' => r' = r ∧ h'' = h')) : x_ev X xT (d + 1) μ as h r h' := by
  subst hL
  obtain ⟨n, hn⟩ := k
  exact ⟨M, n, hM, hl, hn⟩
theorem q_evx {X : XX} {d μ : Nat} {M : XM} {as : List Value} {h : XH} {P : Option Value → XH → Prop} {L : XL} (hM : xT[μ]? = some M) (hl : (as.flatMap x_exp).length ≤ M.2.2.1) (hL : x_ent as M.2.2.1 = L) (k : Wp X xT d M 0 L [] h P) : ∃ r h', x_ev X xT (d + 1) μ as h r h' ∧ P r h' := by
  subst hL
  obtain ⟨n, hn⟩ := k
  obtain ⟨r, h', h1, h2⟩ := x_det _ _ _ _ _ hn
  exact ⟨r, h', ⟨M, n, hM, hl, h2⟩, h1⟩
theorem x_ro_none {X : XX} {x : Nat} (hx : x < 1000) : x_ro X x = none := by
  unfold x_ro
  rw [if_neg (by omega), if_neg (by omega)]
section QRules
variable {X : XX} {d : Nat} {M : XM} {pc n a b ci pos : Nat} {L L' : XL} {st r : List Value} {h : XH} {P : Option Value → XH → Prop}
theorem q_nx {e : XE} {q : Nat × XL × List Value × XH} (hc : M.2.2.2.2[pc]? = some e) (hf : x_fun X M pc e L st h = some (.inl q)) (k : Wp X xT d M q.1 q.2.1 q.2.2.1 q.2.2.2 P) : Wp X xT d M pc L st h P := by
  obtain ⟨n, hn⟩ := k
  exact ⟨n + 1, e, hc, by rw [hf]; exact hn⟩
theorem q_post {P' : Option Value → XH → Prop} (k : Wp X xT d M pc L st h P) (hP : ∀ r h', P r h' → P' r h') : Wp X xT d M pc L st h P' := by
  obtain ⟨n, hn⟩ := k
  obtain ⟨r, h', h1, h2⟩ := x_det _ _ _ _ _ hn
  have key : ∀ (n pc : Nat) (L : XL) (st : List Value) (h : XH), x_run X (x_ev X xT d) M n pc L st h (fun r' h'' => r' = r ∧ h'' = h') → x_run X (x_ev X xT d) M n pc L st h P' := by
    intro n
    induction n with
    | zero => intro pc L st h hr; exact hr.elim
    | succ n ih =>
      intro pc L st h hr
      obtain ⟨e, he, hr⟩ := hr
      refine ⟨e, he, ?_⟩
      split at hr
      · exact ih _ _ _ _ hr
      · obtain ⟨e1, e2⟩ := hr
        rw [e1, e2]
        exact hP r h' h1
      · obtain ⟨r1, h3, h4, h5⟩ := hr
        exact ⟨r1, h3, h4, ih _ _ _ _ h5⟩
      · exact hr.elim
  exact ⟨n, key _ _ _ _ _ h2⟩
theorem q_iadd {x y : Int32} (hc : M.2.2.2.2[pc]? = some (.iadd, n, a, b, ci, pos)) (k : Wp X xT d M n L (.int (x + y) :: r) h P) : Wp X xT d M pc L (.int y :: .int x :: r) h P := q_nx hc rfl k
theorem q_isub {x y : Int32} (hc : M.2.2.2.2[pc]? = some (.isub, n, a, b, ci, pos)) (k : Wp X xT d M n L (.int (x - y) :: r) h P) : Wp X xT d M pc L (.int y :: .int x :: r) h P := q_nx hc rfl k
theorem q_imul {x y : Int32} (hc : M.2.2.2.2[pc]? = some (.imul, n, a, b, ci, pos)) (k : Wp X xT d M n L (.int (x * y) :: r) h P) : Wp X xT d M pc L (.int y :: .int x :: r) h P := q_nx hc rfl k
theorem q_iand {x y : Int32} (hc : M.2.2.2.2[pc]? = some (.iand, n, a, b, ci, pos)) (k : Wp X xT d M n L (.int (x &&& y) :: r) h P) : Wp X xT d M pc L (.int y :: .int x :: r) h P := q_nx hc rfl k
theorem q_ior {x y : Int32} (hc : M.2.2.2.2[pc]? = some (.ior, n, a, b, ci, pos)) (k : Wp X xT d M n L (.int (x ||| y) :: r) h P) : Wp X xT d M pc L (.int y :: .int x :: r) h P := q_nx hc rfl k
theorem q_ixor {x y : Int32} (hc : M.2.2.2.2[pc]? = some (.ixor, n, a, b, ci, pos)) (k : Wp X xT d M n L (.int (x ^^^ y) :: r) h P) : Wp X xT d M pc L (.int y :: .int x :: r) h P := q_nx hc rfl k
theorem q_ishl {x y : Int32} (hc : M.2.2.2.2[pc]? = some (.ishl, n, a, b, ci, pos)) (k : Wp X xT d M n L (.int (x <<< (y &&& 31)) :: r) h P) : Wp X xT d M pc L (.int y :: .int x :: r) h P := q_nx hc rfl k
theorem q_ishr {x y : Int32} (hc : M.2.2.2.2[pc]? = some (.ishr, n, a, b, ci, pos)) (k : Wp X xT d M n L (.int (x >>> (y &&& 31)) :: r) h P) : Wp X xT d M pc L (.int y :: .int x :: r) h P := q_nx hc rfl k
theorem q_iushr {x y : Int32} (hc : M.2.2.2.2[pc]? = some (.iushr, n, a, b, ci, pos)) (k : Wp X xT d M n L (.int ((x.toUInt32 >>> (y.toUInt32 &&& Int32.toUInt32 31)).toInt32) :: r) h P) : Wp X xT d M pc L (.int y :: .int x :: r) h P := q_nx hc rfl k
theorem q_idiv {x y : Int32} (hc : M.2.2.2.2[pc]? = some (.idiv, n, a, b, ci, pos)) (hy : ¬ y = 0) (k : Wp X xT d M n L (.int (x / y) :: r) h P) : Wp X xT d M pc L (.int y :: .int x :: r) h P := q_nx (q := (n, L, .int (x / y) :: r, h)) hc (by simp [x_fun, x_dI, x_nx, hy]) k
theorem q_irem {x y : Int32} (hc : M.2.2.2.2[pc]? = some (.irem, n, a, b, ci, pos)) (hy : ¬ y = 0) (k : Wp X xT d M n L (.int (x - x / y * y) :: r) h P) : Wp X xT d M pc L (.int y :: .int x :: r) h P := q_nx (q := (n, L, .int (x - x / y * y) :: r, h)) hc (by simp [x_fun, x_dI, x_nx, hy]) k
theorem q_ladd {x y : Int64} (hc : M.2.2.2.2[pc]? = some (.ladd, n, a, b, ci, pos)) (k : Wp X xT d M n L (.long (x + y) :: r) h P) : Wp X xT d M pc L (.long y :: .long x :: r) h P := q_nx hc rfl k
theorem q_lmul {x y : Int64} (hc : M.2.2.2.2[pc]? = some (.lmul, n, a, b, ci, pos)) (k : Wp X xT d M n L (.long (x * y) :: r) h P) : Wp X xT d M pc L (.long y :: .long x :: r) h P := q_nx hc rfl k
theorem q_ldiv {x y : Int64} (hc : M.2.2.2.2[pc]? = some (.ldiv, n, a, b, ci, pos)) (hy : ¬ y = 0) (k : Wp X xT d M n L (.long (x / y) :: r) h P) : Wp X xT d M pc L (.long y :: .long x :: r) h P := q_nx (q := (n, L, .long (x / y) :: r, h)) hc (by simp [x_fun, x_dL, x_nx, hy]) k
theorem q_lrem {x y : Int64} (hc : M.2.2.2.2[pc]? = some (.lrem, n, a, b, ci, pos)) (hy : ¬ y = 0) (k : Wp X xT d M n L (.long (x - x / y * y) :: r) h P) : Wp X xT d M pc L (.long y :: .long x :: r) h P := q_nx (q := (n, L, .long (x - x / y * y) :: r, h)) hc (by simp [x_fun, x_dL, x_nx, hy]) k
theorem q_ineg {x : Int32} (hc : M.2.2.2.2[pc]? = some (.ineg, n, a, b, ci, pos)) (k : Wp X xT d M n L (.int (-x) :: r) h P) : Wp X xT d M pc L (.int x :: r) h P := q_nx hc rfl k
theorem q_i2l {x : Int32} (hc : M.2.2.2.2[pc]? = some (.i2l, n, a, b, ci, pos)) (k : Wp X xT d M n L (.long x.toInt64 :: r) h P) : Wp X xT d M pc L (.int x :: r) h P := q_nx hc rfl k
theorem q_i2b {x : Int32} (hc : M.2.2.2.2[pc]? = some (.i2b, n, a, b, ci, pos)) (k : Wp X xT d M n L (.int x.toInt8.toInt32 :: r) h P) : Wp X xT d M pc L (.int x :: r) h P := q_nx hc rfl k
theorem q_l2i {x : Int64} (hc : M.2.2.2.2[pc]? = some (.l2i, n, a, b, ci, pos)) (k : Wp X xT d M n L (.int x.toInt32 :: r) h P) : Wp X xT d M pc L (.long x :: r) h P := q_nx hc rfl k
theorem q_lcmp {x y : Int64} (hc : M.2.2.2.2[pc]? = some (.lcmp, n, a, b, ci, pos)) (k : Wp X xT d M n L (.int (lg_cmp x y) :: r) h P) : Wp X xT d M pc L (.long y :: .long x :: r) h P := q_nx hc rfl k
theorem q_aconst_null  (hc : M.2.2.2.2[pc]? = some (.aconst_null, n, a, b, ci, pos)) (k : Wp X xT d M n L (.null :: r) h P) : Wp X xT d M pc L (r) h P := q_nx hc rfl k
theorem q_iconst {k0 : Int} {v : Int32} (hc : M.2.2.2.2[pc]? = some (.iconst k0, n, a, b, ci, pos)) (hv : (Int32.ofInt k0) = v) (k : Wp X xT d M n L (.int v :: r) h P) : Wp X xT d M pc L (r) h P := by subst hv; exact q_nx hc rfl k
theorem q_bipush {k0 : Int} {v : Int32} (hc : M.2.2.2.2[pc]? = some (.bipush k0, n, a, b, ci, pos)) (hv : (Int8.ofInt k0).toInt32 = v) (k : Wp X xT d M n L (.int v :: r) h P) : Wp X xT d M pc L (r) h P := by subst hv; exact q_nx hc rfl k
theorem q_sipush {k0 : Int} {v : Int32} (hc : M.2.2.2.2[pc]? = some (.sipush k0, n, a, b, ci, pos)) (hv : (Int16.ofInt k0).toInt32 = v) (k : Wp X xT d M n L (.int v :: r) h P) : Wp X xT d M pc L (r) h P := by subst hv; exact q_nx hc rfl k
theorem q_lconst {k0 : Fin 2} {v : Int64} (hc : M.2.2.2.2[pc]? = some (.lconst k0, n, a, b, ci, pos)) (hv : Int64.ofNat (k0 : Nat) = v) (k : Wp X xT d M n L (.long v :: r) h P) : Wp X xT d M pc L (r) h P := by subst hv; exact q_nx hc rfl k
theorem q_ldc {k0 : Nat} {v : Int32} (hc : M.2.2.2.2[pc]? = some (.ldc k0, n, a, b, ci, pos)) (hv : Int32.ofNat a = v) (k : Wp X xT d M n L (.int v :: r) h P) : Wp X xT d M pc L (r) h P := by subst hv; exact q_nx hc rfl k
theorem q_ldc_w {k0 : Nat} {v : Int32} (hc : M.2.2.2.2[pc]? = some (.ldc_w k0, n, a, b, ci, pos)) (hv : Int32.ofNat a = v) (k : Wp X xT d M n L (.int v :: r) h P) : Wp X xT d M pc L (r) h P := by subst hv; exact q_nx hc rfl k
theorem q_ldc2_w {k0 : Nat} {v : Int64} (hc : M.2.2.2.2[pc]? = some (.ldc2_w k0, n, a, b, ci, pos)) (hv : Int64.ofNat a = v) (k : Wp X xT d M n L (.long v :: r) h P) : Wp X xT d M pc L (r) h P := by subst hv; exact q_nx hc rfl k
theorem q_iload {i : Nat} {x : Int32} (hc : M.2.2.2.2[pc]? = some (.iload i, n, a, b, ci, pos)) (hl : x_ld L i = some (.int x)) (k : Wp X xT d M n L (.int x :: r) h P) : Wp X xT d M pc L (r) h P := q_nx (q := (n, L, .int x :: r, h)) hc (by simp [x_fun, x_lc, hl, x_nx, x_isI]) k
theorem q_iload_n {i : Fin 4} {x : Int32} (hc : M.2.2.2.2[pc]? = some (.iload_n i, n, a, b, ci, pos)) (hl : x_ld L (i : Nat) = some (.int x)) (k : Wp X xT d M n L (.int x :: r) h P) : Wp X xT d M pc L (r) h P := q_nx (q := (n, L, .int x :: r, h)) hc (by simp [x_fun, x_lc, hl, x_nx, x_isI]) k
theorem q_lload {i : Nat} {x : Int64} (hc : M.2.2.2.2[pc]? = some (.lload i, n, a, b, ci, pos)) (hl : x_ld L i = some (.long x)) (k : Wp X xT d M n L (.long x :: r) h P) : Wp X xT d M pc L (r) h P := q_nx (q := (n, L, .long x :: r, h)) hc (by simp [x_fun, x_lc, hl, x_nx, x_isL]) k
theorem q_lload_n {i : Fin 4} {x : Int64} (hc : M.2.2.2.2[pc]? = some (.lload_n i, n, a, b, ci, pos)) (hl : x_ld L (i : Nat) = some (.long x)) (k : Wp X xT d M n L (.long x :: r) h P) : Wp X xT d M pc L (r) h P := q_nx (q := (n, L, .long x :: r, h)) hc (by simp [x_fun, x_lc, hl, x_nx, x_isL]) k
theorem q_aload {i : Nat} {x : Nat} (hc : M.2.2.2.2[pc]? = some (.aload i, n, a, b, ci, pos)) (hl : x_ld L i = some (.ref x)) (k : Wp X xT d M n L (.ref x :: r) h P) : Wp X xT d M pc L (r) h P := q_nx (q := (n, L, .ref x :: r, h)) hc (by simp [x_fun, x_lc, hl, x_nx, x_isA]) k
theorem q_aload_n {i : Fin 4} {x : Nat} (hc : M.2.2.2.2[pc]? = some (.aload_n i, n, a, b, ci, pos)) (hl : x_ld L (i : Nat) = some (.ref x)) (k : Wp X xT d M n L (.ref x :: r) h P) : Wp X xT d M pc L (r) h P := q_nx (q := (n, L, .ref x :: r, h)) hc (by simp [x_fun, x_lc, hl, x_nx, x_isA]) k
theorem q_aloadN {i : Nat} (hc : M.2.2.2.2[pc]? = some (.aload i, n, a, b, ci, pos)) (hl : x_ld L i = some .null) (k : Wp X xT d M n L (.null :: r) h P) : Wp X xT d M pc L (r) h P := q_nx (q := (n, L, .null :: r, h)) hc (by simp [x_fun, x_lc, hl, x_nx, x_isA]) k
theorem q_aload_nN {i : Fin 4} (hc : M.2.2.2.2[pc]? = some (.aload_n i, n, a, b, ci, pos)) (hl : x_ld L (i : Nat) = some .null) (k : Wp X xT d M n L (.null :: r) h P) : Wp X xT d M pc L (r) h P := q_nx (q := (n, L, .null :: r, h)) hc (by simp [x_fun, x_lc, hl, x_nx, x_isA]) k
theorem q_istore {i : Nat} {x : Int32} (hc : M.2.2.2.2[pc]? = some (.istore i, n, a, b, ci, pos)) (hl : x_st1 L i (.int x) = some L') (k : Wp X xT d M n L' (r) h P) : Wp X xT d M pc L (.int x :: r) h P := q_nx (q := (n, L', r, h)) hc (by simp [x_fun, x_cI, hl, x_sx]) k
theorem q_istore_n {i : Fin 4} {x : Int32} (hc : M.2.2.2.2[pc]? = some (.istore_n i, n, a, b, ci, pos)) (hl : x_st1 L (i : Nat) (.int x) = some L') (k : Wp X xT d M n L' (r) h P) : Wp X xT d M pc L (.int x :: r) h P := q_nx (q := (n, L', r, h)) hc (by simp [x_fun, x_cI, hl, x_sx]) k
theorem q_lstore {i : Nat} {x : Int64} (hc : M.2.2.2.2[pc]? = some (.lstore i, n, a, b, ci, pos)) (hl : x_st2 L i (.long x) = some L') (k : Wp X xT d M n L' (r) h P) : Wp X xT d M pc L (.long x :: r) h P := q_nx (q := (n, L', r, h)) hc (by simp [x_fun, x_cL, hl, x_sx]) k
theorem q_lstore_n {i : Fin 4} {x : Int64} (hc : M.2.2.2.2[pc]? = some (.lstore_n i, n, a, b, ci, pos)) (hl : x_st2 L (i : Nat) (.long x) = some L') (k : Wp X xT d M n L' (r) h P) : Wp X xT d M pc L (.long x :: r) h P := q_nx (q := (n, L', r, h)) hc (by simp [x_fun, x_cL, hl, x_sx]) k
theorem q_astore {i : Nat} {x : Nat} (hc : M.2.2.2.2[pc]? = some (.astore i, n, a, b, ci, pos)) (hl : x_st1 L i (.ref x) = some L') (k : Wp X xT d M n L' (r) h P) : Wp X xT d M pc L (.ref x :: r) h P := q_nx (q := (n, L', r, h)) hc (by simp [x_fun, x_cA, hl, x_sx]) k
theorem q_astore_n {i : Fin 4} {x : Nat} (hc : M.2.2.2.2[pc]? = some (.astore_n i, n, a, b, ci, pos)) (hl : x_st1 L (i : Nat) (.ref x) = some L') (k : Wp X xT d M n L' (r) h P) : Wp X xT d M pc L (.ref x :: r) h P := q_nx (q := (n, L', r, h)) hc (by simp [x_fun, x_cA, hl, x_sx]) k
theorem q_astoreN {i : Nat} (hc : M.2.2.2.2[pc]? = some (.astore i, n, a, b, ci, pos)) (hl : x_st1 L i .null = some L') (k : Wp X xT d M n L' (r) h P) : Wp X xT d M pc L (.null :: r) h P := q_nx (q := (n, L', r, h)) hc (by simp [x_fun, x_cA, hl, x_sx]) k
theorem q_astore_nN {i : Fin 4} (hc : M.2.2.2.2[pc]? = some (.astore_n i, n, a, b, ci, pos)) (hl : x_st1 L (i : Nat) .null = some L') (k : Wp X xT d M n L' (r) h P) : Wp X xT d M pc L (.null :: r) h P := q_nx (q := (n, L', r, h)) hc (by simp [x_fun, x_cA, hl, x_sx]) k
theorem q_iinc {i : Nat} {k0 : Int} {x v : Int32} (hc : M.2.2.2.2[pc]? = some (.iinc i k0, n, a, b, ci, pos)) (h0 : x_ld L i = some (.int x)) (hv : x + Int32.ofInt k0 = v) (hl : x_st1 L i (.int v) = some L') (k : Wp X xT d M n L' (r) h P) : Wp X xT d M pc L (r) h P := by subst hv; exact q_nx (q := (n, L', r, h)) hc (by simp [x_fun, x_inc, h0, hl, x_sx]) k
theorem q_dupI {x : Int32} (hc : M.2.2.2.2[pc]? = some (.dup, n, a, b, ci, pos)) (k : Wp X xT d M n L (.int x :: .int x :: r) h P) : Wp X xT d M pc L (.int x :: r) h P := q_nx hc rfl k
theorem q_dupA {x : Nat} (hc : M.2.2.2.2[pc]? = some (.dup, n, a, b, ci, pos)) (k : Wp X xT d M n L (.ref x :: .ref x :: r) h P) : Wp X xT d M pc L (.ref x :: r) h P := q_nx hc rfl k
theorem q_dup2 {x : Int32} {y : Nat} (hc : M.2.2.2.2[pc]? = some (.dup2, n, a, b, ci, pos)) (k : Wp X xT d M n L (.int x :: .ref y :: .int x :: .ref y :: r) h P) : Wp X xT d M pc L (.int x :: .ref y :: r) h P := q_nx hc rfl k
theorem q_popI {x : Int32} (hc : M.2.2.2.2[pc]? = some (.pop, n, a, b, ci, pos)) (k : Wp X xT d M n L (r) h P) : Wp X xT d M pc L (.int x :: r) h P := q_nx hc rfl k
theorem q_goto {o : Int} (hc : M.2.2.2.2[pc]? = some (.goto o, n, a, b, ci, pos)) (k : Wp X xT d M a L (r) h P) : Wp X xT d M pc L (r) h P := q_nx hc rfl k
theorem q_icmp_eq {x y : Int32} {o : Int} (hc : M.2.2.2.2[pc]? = some (.if_icmp .eq o, n, a, b, ci, pos)) (kt : x = y → Wp X xT d M a L r h P) (kf : ¬ x = y → Wp X xT d M n L r h P) : Wp X xT d M pc L (.int y :: .int x :: r) h P := by
  by_cases hx : x = y
  · exact q_nx (q := (a, L, r, h)) hc (by simp [x_fun, x_cdc, hx]) (kt hx)
  · exact q_nx (q := (n, L, r, h)) hc (by simp [x_fun, x_cdc, hx]) (kf hx)
theorem q_if_eq {x : Int32} {o : Int} (hc : M.2.2.2.2[pc]? = some (.ifCond .eq o, n, a, b, ci, pos)) (kt : x = 0 → Wp X xT d M a L r h P) (kf : ¬ x = 0 → Wp X xT d M n L r h P) : Wp X xT d M pc L (.int x :: r) h P := by
  by_cases hx : x = 0
  · exact q_nx (q := (a, L, r, h)) hc (by simp [x_fun, x_cdc, hx]) (kt hx)
  · exact q_nx (q := (n, L, r, h)) hc (by simp [x_fun, x_cdc, hx]) (kf hx)
theorem q_icmp_ne {x y : Int32} {o : Int} (hc : M.2.2.2.2[pc]? = some (.if_icmp .ne o, n, a, b, ci, pos)) (kt : ¬ x = y → Wp X xT d M a L r h P) (kf : x = y → Wp X xT d M n L r h P) : Wp X xT d M pc L (.int y :: .int x :: r) h P := by
  by_cases hx : ¬ x = y
  · exact q_nx (q := (a, L, r, h)) hc (by simp [x_fun, x_cdc, hx]) (kt hx)
  · exact q_nx (q := (n, L, r, h)) hc (by simp [x_fun, x_cdc, hx]) (kf (Classical.not_not.mp hx))
theorem q_if_ne {x : Int32} {o : Int} (hc : M.2.2.2.2[pc]? = some (.ifCond .ne o, n, a, b, ci, pos)) (kt : ¬ x = 0 → Wp X xT d M a L r h P) (kf : x = 0 → Wp X xT d M n L r h P) : Wp X xT d M pc L (.int x :: r) h P := by
  by_cases hx : ¬ x = 0
  · exact q_nx (q := (a, L, r, h)) hc (by simp [x_fun, x_cdc, hx]) (kt hx)
  · exact q_nx (q := (n, L, r, h)) hc (by simp [x_fun, x_cdc, hx]) (kf (Classical.not_not.mp hx))
theorem q_icmp_lt {x y : Int32} {o : Int} (hc : M.2.2.2.2[pc]? = some (.if_icmp .lt o, n, a, b, ci, pos)) (kt : x < y → Wp X xT d M a L r h P) (kf : ¬ x < y → Wp X xT d M n L r h P) : Wp X xT d M pc L (.int y :: .int x :: r) h P := by
  by_cases hx : x < y
  · exact q_nx (q := (a, L, r, h)) hc (by simp [x_fun, x_cdc, hx]) (kt hx)
  · exact q_nx (q := (n, L, r, h)) hc (by simp [x_fun, x_cdc, hx]) (kf hx)
theorem q_if_lt {x : Int32} {o : Int} (hc : M.2.2.2.2[pc]? = some (.ifCond .lt o, n, a, b, ci, pos)) (kt : x < 0 → Wp X xT d M a L r h P) (kf : ¬ x < 0 → Wp X xT d M n L r h P) : Wp X xT d M pc L (.int x :: r) h P := by
  by_cases hx : x < 0
  · exact q_nx (q := (a, L, r, h)) hc (by simp [x_fun, x_cdc, hx]) (kt hx)
  · exact q_nx (q := (n, L, r, h)) hc (by simp [x_fun, x_cdc, hx]) (kf hx)
theorem q_icmp_ge {x y : Int32} {o : Int} (hc : M.2.2.2.2[pc]? = some (.if_icmp .ge o, n, a, b, ci, pos)) (kt : y ≤ x → Wp X xT d M a L r h P) (kf : ¬ y ≤ x → Wp X xT d M n L r h P) : Wp X xT d M pc L (.int y :: .int x :: r) h P := by
  by_cases hx : y ≤ x
  · exact q_nx (q := (a, L, r, h)) hc (by simp [x_fun, x_cdc, hx]) (kt hx)
  · exact q_nx (q := (n, L, r, h)) hc (by simp [x_fun, x_cdc, hx]) (kf hx)
theorem q_if_ge {x : Int32} {o : Int} (hc : M.2.2.2.2[pc]? = some (.ifCond .ge o, n, a, b, ci, pos)) (kt : 0 ≤ x → Wp X xT d M a L r h P) (kf : ¬ 0 ≤ x → Wp X xT d M n L r h P) : Wp X xT d M pc L (.int x :: r) h P := by
  by_cases hx : 0 ≤ x
  · exact q_nx (q := (a, L, r, h)) hc (by simp [x_fun, x_cdc, hx]) (kt hx)
  · exact q_nx (q := (n, L, r, h)) hc (by simp [x_fun, x_cdc, hx]) (kf hx)
theorem q_icmp_gt {x y : Int32} {o : Int} (hc : M.2.2.2.2[pc]? = some (.if_icmp .gt o, n, a, b, ci, pos)) (kt : y < x → Wp X xT d M a L r h P) (kf : ¬ y < x → Wp X xT d M n L r h P) : Wp X xT d M pc L (.int y :: .int x :: r) h P := by
  by_cases hx : y < x
  · exact q_nx (q := (a, L, r, h)) hc (by simp [x_fun, x_cdc, hx]) (kt hx)
  · exact q_nx (q := (n, L, r, h)) hc (by simp [x_fun, x_cdc, hx]) (kf hx)
theorem q_if_gt {x : Int32} {o : Int} (hc : M.2.2.2.2[pc]? = some (.ifCond .gt o, n, a, b, ci, pos)) (kt : 0 < x → Wp X xT d M a L r h P) (kf : ¬ 0 < x → Wp X xT d M n L r h P) : Wp X xT d M pc L (.int x :: r) h P := by
  by_cases hx : 0 < x
  · exact q_nx (q := (a, L, r, h)) hc (by simp [x_fun, x_cdc, hx]) (kt hx)
  · exact q_nx (q := (n, L, r, h)) hc (by simp [x_fun, x_cdc, hx]) (kf hx)
theorem q_icmp_le {x y : Int32} {o : Int} (hc : M.2.2.2.2[pc]? = some (.if_icmp .le o, n, a, b, ci, pos)) (kt : x ≤ y → Wp X xT d M a L r h P) (kf : ¬ x ≤ y → Wp X xT d M n L r h P) : Wp X xT d M pc L (.int y :: .int x :: r) h P := by
  by_cases hx : x ≤ y
  · exact q_nx (q := (a, L, r, h)) hc (by simp [x_fun, x_cdc, hx]) (kt hx)
  · exact q_nx (q := (n, L, r, h)) hc (by simp [x_fun, x_cdc, hx]) (kf hx)
theorem q_if_le {x : Int32} {o : Int} (hc : M.2.2.2.2[pc]? = some (.ifCond .le o, n, a, b, ci, pos)) (kt : x ≤ 0 → Wp X xT d M a L r h P) (kf : ¬ x ≤ 0 → Wp X xT d M n L r h P) : Wp X xT d M pc L (.int x :: r) h P := by
  by_cases hx : x ≤ 0
  · exact q_nx (q := (a, L, r, h)) hc (by simp [x_fun, x_cdc, hx]) (kt hx)
  · exact q_nx (q := (n, L, r, h)) hc (by simp [x_fun, x_cdc, hx]) (kf hx)
theorem q_ifnull {o : Int} {x : Nat} (hc : M.2.2.2.2[pc]? = some (.ifnull o, n, a, b, ci, pos)) (k : Wp X xT d M n L (r) h P) : Wp X xT d M pc L (.ref x :: r) h P := q_nx hc rfl k
theorem q_ifnullN {o : Int} (hc : M.2.2.2.2[pc]? = some (.ifnull o, n, a, b, ci, pos)) (k : Wp X xT d M a L (r) h P) : Wp X xT d M pc L (.null :: r) h P := q_nx hc rfl k
theorem q_ifnonnull {o : Int} {x : Nat} (hc : M.2.2.2.2[pc]? = some (.ifnonnull o, n, a, b, ci, pos)) (k : Wp X xT d M a L (r) h P) : Wp X xT d M pc L (.ref x :: r) h P := q_nx hc rfl k
theorem q_ifnonnullN {o : Int} (hc : M.2.2.2.2[pc]? = some (.ifnonnull o, n, a, b, ci, pos)) (k : Wp X xT d M n L (r) h P) : Wp X xT d M pc L (.null :: r) h P := q_nx hc rfl k
theorem q_tsw {dd lo hi : Int} {offs : Array Int} {x : Int32} {t : Nat} (hc : M.2.2.2.2[pc]? = some (.tableswitch dd lo hi offs, n, a, b, ci, pos)) (hs : x_sw pc dd lo hi offs x = some t) (k : Wp X xT d M t L (r) h P) : Wp X xT d M pc L (.int x :: r) h P := q_nx (q := (t, L, r, h)) hc (by simp [x_fun, hs]) k
theorem q_getfield {i x : Nat} {fs : List Value} {v : Value} (hc : M.2.2.2.2[pc]? = some (.getfield i, n, a, b, ci, pos)) (ha : h[x]? = some (.inr (ci, fs))) (hv : fs[b]? = some v) (k : Wp X xT d M n L (v :: r) h P) : Wp X xT d M pc L (.ref x :: r) h P := q_nx (q := (n, L, v :: r, h)) hc (by simp [x_fun, x_get, ha, hv, x_nx]) k
theorem q_putfield {i x : Nat} {fs : List Value} {v : Value} {ty : FieldType} (hc : M.2.2.2.2[pc]? = some (.putfield i, n, a, b, ci, pos)) (ha : h[x]? = some (.inr (ci, fs))) (ht : x_ft ci b = some ty) (hb : b < fs.length) (hf : fits ty v = true) (hi : x_fin ci b = true → (M.1.name == "<init>") = true) (k : Wp X xT d M n L (r) (h.set x (.inr (ci, fs.set b v))) P) : Wp X xT d M pc L (v :: .ref x :: r) h P := q_nx (q := (n, L, r, h.set x (.inr (ci, fs.set b v)))) hc (by simp only [x_fun, x_put, ha, ht]; rw [if_pos ⟨trivial, hb, hf, hi⟩]) k
theorem q_getstatic {i : Nat} (hc : M.2.2.2.2[pc]? = some (.getstatic i, n, a, b, ci, pos)) (k : Wp X xT d M n L (.ref 1001 :: r) h P) : Wp X xT d M pc L (r) h P := q_nx hc rfl k
theorem q_iaload {i : Int32} {x m : Nat} {f : Nat → Int32} (hc : M.2.2.2.2[pc]? = some (.iaload, n, a, b, ci, pos)) (hx : x < 1000) (ha : h[x]? = some (.inl (0, m, .inl f))) (hi : ¬ (i < 0 ∨ m ≤ i.toNatClampNeg)) (k : Wp X xT d M n L (.int (f i.toNatClampNeg) :: r) h P) : Wp X xT d M pc L (.int i :: .ref x :: r) h P := q_nx (q := (n, L, .int (f i.toNatClampNeg) :: r, h)) hc (by simp only [x_fun, x_iald, x_ro_none (X := X) hx, ha, if_neg hi]) k
theorem q_iaload_s {i : Int32} (hc : M.2.2.2.2[pc]? = some (.iaload, n, a, b, ci, pos)) (hi : ¬ (i < 0 ∨ X.1 ≤ i.toNatClampNeg)) (k : Wp X xT d M n L (.int (X.2 i.toNatClampNeg) :: r) h P) : Wp X xT d M pc L (.int i :: .ref 1000 :: r) h P := q_nx (q := (n, L, .int (X.2 i.toNatClampNeg) :: r, h)) hc (by simp only [x_fun, x_iald, x_ro, if_true, if_neg hi]) k
theorem q_iaload_l {i : Int32} (hc : M.2.2.2.2[pc]? = some (.iaload, n, a, b, ci, pos)) (hi : ¬ (i < 0 ∨ 6 ≤ i.toNatClampNeg)) (k : Wp X xT d M n L (.int (x_let i.toNatClampNeg) :: r) h P) : Wp X xT d M pc L (.int i :: .ref 1001 :: r) h P := q_nx (q := (n, L, .int (x_let i.toNatClampNeg) :: r, h)) hc (by simp [x_fun, x_iald, x_ro, hi]) k
theorem q_iastore {x i : Int32} {y m : Nat} {f : Nat → Int32} (hc : M.2.2.2.2[pc]? = some (.iastore, n, a, b, ci, pos)) (ha : h[y]? = some (.inl (0, m, .inl f))) (hi : ¬ (i < 0 ∨ m ≤ i.toNatClampNeg)) (k : Wp X xT d M n L (r) (h.set y (.inl (0, m, .inl (upd f i.toNatClampNeg x)))) P) : Wp X xT d M pc L (.int x :: .int i :: .ref y :: r) h P := q_nx (q := (n, L, r, h.set y (.inl (0, m, .inl (upd f i.toNatClampNeg x))))) hc (by simp only [x_fun, x_iast, ha, if_neg hi]) k
theorem q_laload {i : Int32} {x m : Nat} {f : Nat → Int64} (hc : M.2.2.2.2[pc]? = some (.laload, n, a, b, ci, pos)) (ha : h[x]? = some (.inl (1, m, .inr (.inl f)))) (hi : ¬ (i < 0 ∨ m ≤ i.toNatClampNeg)) (k : Wp X xT d M n L (.long (f i.toNatClampNeg) :: r) h P) : Wp X xT d M pc L (.int i :: .ref x :: r) h P := q_nx (q := (n, L, .long (f i.toNatClampNeg) :: r, h)) hc (by simp only [x_fun, x_lald, ha, if_neg hi]) k
theorem q_lastore {x : Int64} {i : Int32} {y m : Nat} {f : Nat → Int64} (hc : M.2.2.2.2[pc]? = some (.lastore, n, a, b, ci, pos)) (ha : h[y]? = some (.inl (1, m, .inr (.inl f)))) (hi : ¬ (i < 0 ∨ m ≤ i.toNatClampNeg)) (k : Wp X xT d M n L (r) (h.set y (.inl (1, m, .inr (.inl (vp_updL f i.toNatClampNeg x))))) P) : Wp X xT d M pc L (.long x :: .int i :: .ref y :: r) h P := q_nx (q := (n, L, r, h.set y (.inl (1, m, .inr (.inl (vp_updL f i.toNatClampNeg x)))))) hc (by simp only [x_fun, x_last, ha, if_neg hi]) k
theorem q_aaload {i : Int32} {x t m y : Nat} {f : Nat → Option Nat} (hc : M.2.2.2.2[pc]? = some (.aaload, n, a, b, ci, pos)) (ha : h[x]? = some (.inl (t, m, .inr (.inr (.inr (.inr f)))))) (hi : ¬ (i < 0 ∨ m ≤ i.toNatClampNeg)) (ht : (x_acl t).isNone = false) (hy : f i.toNatClampNeg = some y) (k : Wp X xT d M n L (.ref y :: r) h P) : Wp X xT d M pc L (.int i :: .ref x :: r) h P := q_nx (q := (n, L, .ref y :: r, h)) hc (by simp only [x_fun, x_aald, ha]; rw [if_neg (fun z => z.elim (fun q => hi (Or.inl q)) (fun q => q.elim (fun q => hi (Or.inr q)) (fun q => by rw [ht] at q; cases q))), hy]; rfl) k
theorem q_aastore {v y t m c0 : Nat} {i : Int32} {vs : List Value} {f : Nat → Option Nat} (hc : M.2.2.2.2[pc]? = some (.aastore, n, a, b, ci, pos)) (ha : h[y]? = some (.inl (t, m, .inr (.inr (.inr (.inr f)))))) (hv : h[v]? = some (.inr (c0, vs))) (hi : ¬ (i < 0 ∨ m ≤ i.toNatClampNeg)) (ht : x_acl t = some c0) (k : Wp X xT d M n L (r) (h.set y (.inl (t, m, .inr (.inr (.inr (.inr (va_up f i.toNatClampNeg (some v)))))))) P) : Wp X xT d M pc L (.ref v :: .int i :: .ref y :: r) h P := q_nx (q := (n, L, r, h.set y (.inl (t, m, .inr (.inr (.inr (.inr (va_up f i.toNatClampNeg (some v))))))))) hc (by simp only [x_fun, x_aast, ha, hv]; rw [if_neg (fun z => z.elim (fun q => hi (Or.inl q)) (fun q => q.elim (fun q => hi (Or.inr q)) (fun q => q ht)))]) k
theorem q_alen {x t m : Nat} {y : ((Nat → Int32) ⊕ (Nat → Int64) ⊕ (Nat → UInt32) ⊕ (Nat → UInt64) ⊕ (Nat → Option Nat))} {v : Int32} (hc : M.2.2.2.2[pc]? = some (.arraylength, n, a, b, ci, pos)) (hx : x < 1000) (ha : h[x]? = some (.inl (t, m, y))) (ht : t < 5) (hv : Int32.ofNat m = v) (k : Wp X xT d M n L (.int v :: r) h P) : Wp X xT d M pc L (.ref x :: r) h P := by subst hv; exact q_nx (q := (n, L, .int (Int32.ofNat m) :: r, h)) hc (by simp only [x_fun, x_alen, x_ro_none (X := X) hx, ha, if_pos ht]) k
theorem q_alen_s  (hc : M.2.2.2.2[pc]? = some (.arraylength, n, a, b, ci, pos)) (k : Wp X xT d M n L (.int (Int32.ofNat X.1) :: r) h P) : Wp X xT d M pc L (.ref 1000 :: r) h P := q_nx hc rfl k
theorem q_alen_l  (hc : M.2.2.2.2[pc]? = some (.arraylength, n, a, b, ci, pos)) (k : Wp X xT d M n L (.int 6 :: r) h P) : Wp X xT d M pc L (.ref 1001 :: r) h P := q_nx hc rfl k
theorem q_cpy {i m0 m1 a0 a1 : Nat} {sp dp k0 : Int32} {f g : Nat → Int32} (hc : M.2.2.2.2[pc]? = some (.invokestatic i, n, a, b, ci, pos)) (ha9 : a = 9999) (h0 : h[a0]? = some (.inl (0, m0, .inl f))) (h1 : h[a1]? = some (.inl (0, m1, .inl g))) (hi : ¬ (sp < 0 ∨ dp < 0 ∨ k0 < 0 ∨ m0 < sp.toNatClampNeg + k0.toNatClampNeg ∨ m1 < dp.toNatClampNeg + k0.toNatClampNeg ∨ 8 < (r.map fun v => v.category).sum)) (k : Wp X xT d M n L (r) (h.set a1 (.inl (0, m1, .inl (va_cpy f g sp.toNatClampNeg dp.toNatClampNeg k0.toNatClampNeg)))) P) : Wp X xT d M pc L (.int k0 :: .int dp :: .ref a1 :: .int sp :: .ref a0 :: r) h P := q_nx (q := (n, L, r, h.set a1 (.inl (0, m1, .inl (va_cpy f g sp.toNatClampNeg dp.toNatClampNeg k0.toNatClampNeg))))) hc (by simp only [x_fun, if_pos ha9, x_cpy, h0, h1, if_neg hi]) k
theorem q_oin {i x : Nat} (hc : M.2.2.2.2[pc]? = some (.invokespecial i, n, a, b, ci, pos)) (ha9 : a = 9998) (hr : (r.map fun v => v.category).sum ≤ 8) (k : Wp X xT d M n L (r) h P) : Wp X xT d M pc L (.ref x :: r) h P := q_nx (q := (n, L, r, h)) hc (by simp only [x_fun, if_pos ha9, x_oin, if_neg (Nat.not_lt.mpr hr)]) k
theorem q_new {i : Nat} {fs : List FieldType} (hc : M.2.2.2.2[pc]? = some (.new i, n, a, b, ci, pos)) (hf : x_fts[ci]? = some fs) (hl : h.length < 1000) (k : Wp X xT d M n L (.ref h.length :: r) (h ++ [.inr (ci, fs.map x_def)]) P) : Wp X xT d M pc L (r) h P := q_nx (q := (n, L, .ref h.length :: r, h ++ [.inr (ci, fs.map x_def)])) hc (by simp only [x_fun, x_newo, hf, if_neg (Nat.not_le.mpr hl)]) k
theorem q_iret {v : Int32} (hc : M.2.2.2.2[pc]? = some (.ireturn, n, a, b, ci, pos)) (ht : M.2.2.2.1 = some .int) (hP : P (some (.int v)) h) : Wp X xT d M pc L [.int v] h P := ⟨1, _, hc, by simp only [x_fun, ht, x_ret, vp_nar_int, if_true]; exact hP⟩
theorem q_lret {v : Int64} (hc : M.2.2.2.2[pc]? = some (.lreturn, n, a, b, ci, pos)) (ht : M.2.2.2.1 = some .long) (hP : P (some (.long v)) h) : Wp X xT d M pc L [.long v] h P := ⟨1, _, hc, by simp only [x_fun, ht, x_retL]; exact hP⟩
theorem q_zret {v : Int32} (hc : M.2.2.2.2[pc]? = some (.ireturn, n, a, b, ci, pos)) (ht : M.2.2.2.1 = some .boolean) (hv : v = 0 ∨ v = 1) (hP : P (some (.int v)) h) : Wp X xT d M pc L [.int v] h P := ⟨1, _, hc, by have e1 : narrow .boolean (.int v) = .int v := (by rcases hv with rfl | rfl <;> rfl); simp only [x_fun, ht, x_ret, e1, if_true]; exact hP⟩
theorem q_aret {v : Nat} {nm : String} (hc : M.2.2.2.2[pc]? = some (.areturn, n, a, b, ci, pos)) (ht : M.2.2.2.1 = some (.object nm)) (hP : P (some (.ref v)) h) : Wp X xT d M pc L [.ref v] h P := ⟨1, _, hc, by simp only [x_fun, ht]; exact hP⟩
theorem q_aretN {nm : String} (hc : M.2.2.2.2[pc]? = some (.areturn, n, a, b, ci, pos)) (ht : M.2.2.2.1 = some (.object nm)) (hP : P (some .null) h) : Wp X xT d M pc L [.null] h P := ⟨1, _, hc, by simp only [x_fun, ht]; exact hP⟩
theorem q_vret (hc : M.2.2.2.2[pc]? = some (.return_, n, a, b, ci, pos)) (ht : M.2.2.2.1 = none) (hP : P none h) : Wp X xT d M pc L [] h P := ⟨1, _, hc, by simp only [x_fun, ht]; exact hP⟩
theorem q_call {e : XE} {μ d' : Nat} {as rest : List Value} {r1 : Option Value} {h1 : XH} (hc : M.2.2.2.2[pc]? = some e) (hf : x_fun X M pc e L st h = some (.inr (.inr (μ, as, rest)))) (hd : d' ≤ d) (he : x_ev X xT d' μ as h r1 h1) (k : Wp X xT d M e.2.1 L (r1.toList ++ rest) h1 P) : Wp X xT d M pc L st h P := by
  obtain ⟨n, hn⟩ := k
  exact ⟨n + 1, e, hc, by rw [hf]; exact ⟨r1, h1, x_ev_le hd he, hn⟩⟩
theorem q_callS0 {i d' : Nat} {r1 : Option Value} {h1 : XH} (hc : M.2.2.2.2[pc]? = some (.invokestatic i, n, a, 0, ci, pos)) (hne : (a == 9999) = false) (hr : (r.map fun v => v.category).sum ≤ 8) (hd : d' ≤ d) (he : x_ev X xT d' a [] h r1 h1) (k : Wp X xT d M n L (r1.toList ++ r) h1 P) : Wp X xT d M pc L (r) h P := q_call hc (by simp only [x_fun]; rw [if_neg (by simpa using hne)]; unfold x_call; rw [if_neg (fun z => z.elim (fun q => by simp at q <;> omega) (fun q => Nat.not_lt.mpr hr q))]; rfl) hd he k
theorem q_callV0 {i x d' : Nat} {fs : List Value} {r1 : Option Value} {h1 : XH} (hc : M.2.2.2.2[pc]? = some (.invokevirtual i, n, a, 0, ci, pos)) (ha : h[x]? = some (.inr (ci, fs))) (hr : (r.map fun v => v.category).sum ≤ 8) (hd : d' ≤ d) (he : x_ev X xT d' a [.ref x] h r1 h1) (k : Wp X xT d M n L (r1.toList ++ r) h1 P) : Wp X xT d M pc L (.ref x :: r) h P := q_call hc (by simp only [x_fun]; unfold x_callV; simp only [List.getElem?_cons_succ, List.getElem?_cons_zero, ha, if_true]; unfold x_call; rw [if_neg (fun z => z.elim (fun q => by simp at q <;> omega) (fun q => Nat.not_lt.mpr hr q))]; rfl) hd he k
theorem q_callI0 {i x d' : Nat} {r1 : Option Value} {h1 : XH} (hc : M.2.2.2.2[pc]? = some (.invokespecial i, n, a, 0, ci, pos)) (hne : (a == 9998) = false) (hr : (r.map fun v => v.category).sum ≤ 8) (hd : d' ≤ d) (he : x_ev X xT d' a [.ref x] h r1 h1) (k : Wp X xT d M n L (r1.toList ++ r) h1 P) : Wp X xT d M pc L (.ref x :: r) h P := q_call hc (by simp only [x_fun]; rw [if_neg (by simpa using hne)]; unfold x_callI; simp only [List.getElem?_cons_succ, List.getElem?_cons_zero]; unfold x_call; rw [if_neg (fun z => z.elim (fun q => by simp at q <;> omega) (fun q => Nat.not_lt.mpr hr q))]; rfl) hd he k
theorem q_callS1 {v1 : Value} {i d' : Nat} {r1 : Option Value} {h1 : XH} (hc : M.2.2.2.2[pc]? = some (.invokestatic i, n, a, 1, ci, pos)) (hne : (a == 9999) = false) (hr : (r.map fun v => v.category).sum ≤ 8) (hd : d' ≤ d) (he : x_ev X xT d' a [v1] h r1 h1) (k : Wp X xT d M n L (r1.toList ++ r) h1 P) : Wp X xT d M pc L (v1 :: r) h P := q_call hc (by simp only [x_fun]; rw [if_neg (by simpa using hne)]; unfold x_call; rw [if_neg (fun z => z.elim (fun q => by simp at q <;> omega) (fun q => Nat.not_lt.mpr hr q))]; rfl) hd he k
theorem q_callV1 {v1 : Value} {i x d' : Nat} {fs : List Value} {r1 : Option Value} {h1 : XH} (hc : M.2.2.2.2[pc]? = some (.invokevirtual i, n, a, 1, ci, pos)) (ha : h[x]? = some (.inr (ci, fs))) (hr : (r.map fun v => v.category).sum ≤ 8) (hd : d' ≤ d) (he : x_ev X xT d' a [.ref x, v1] h r1 h1) (k : Wp X xT d M n L (r1.toList ++ r) h1 P) : Wp X xT d M pc L (v1 :: .ref x :: r) h P := q_call hc (by simp only [x_fun]; unfold x_callV; simp only [List.getElem?_cons_succ, List.getElem?_cons_zero, ha, if_true]; unfold x_call; rw [if_neg (fun z => z.elim (fun q => by simp at q <;> omega) (fun q => Nat.not_lt.mpr hr q))]; rfl) hd he k
theorem q_callI1 {v1 : Value} {i x d' : Nat} {r1 : Option Value} {h1 : XH} (hc : M.2.2.2.2[pc]? = some (.invokespecial i, n, a, 1, ci, pos)) (hne : (a == 9998) = false) (hr : (r.map fun v => v.category).sum ≤ 8) (hd : d' ≤ d) (he : x_ev X xT d' a [.ref x, v1] h r1 h1) (k : Wp X xT d M n L (r1.toList ++ r) h1 P) : Wp X xT d M pc L (v1 :: .ref x :: r) h P := q_call hc (by simp only [x_fun]; rw [if_neg (by simpa using hne)]; unfold x_callI; simp only [List.getElem?_cons_succ, List.getElem?_cons_zero]; unfold x_call; rw [if_neg (fun z => z.elim (fun q => by simp at q <;> omega) (fun q => Nat.not_lt.mpr hr q))]; rfl) hd he k
theorem q_callS2 {v1 v2 : Value} {i d' : Nat} {r1 : Option Value} {h1 : XH} (hc : M.2.2.2.2[pc]? = some (.invokestatic i, n, a, 2, ci, pos)) (hne : (a == 9999) = false) (hr : (r.map fun v => v.category).sum ≤ 8) (hd : d' ≤ d) (he : x_ev X xT d' a [v1, v2] h r1 h1) (k : Wp X xT d M n L (r1.toList ++ r) h1 P) : Wp X xT d M pc L (v2 :: v1 :: r) h P := q_call hc (by simp only [x_fun]; rw [if_neg (by simpa using hne)]; unfold x_call; rw [if_neg (fun z => z.elim (fun q => by simp at q <;> omega) (fun q => Nat.not_lt.mpr hr q))]; rfl) hd he k
theorem q_callV2 {v1 v2 : Value} {i x d' : Nat} {fs : List Value} {r1 : Option Value} {h1 : XH} (hc : M.2.2.2.2[pc]? = some (.invokevirtual i, n, a, 2, ci, pos)) (ha : h[x]? = some (.inr (ci, fs))) (hr : (r.map fun v => v.category).sum ≤ 8) (hd : d' ≤ d) (he : x_ev X xT d' a [.ref x, v1, v2] h r1 h1) (k : Wp X xT d M n L (r1.toList ++ r) h1 P) : Wp X xT d M pc L (v2 :: v1 :: .ref x :: r) h P := q_call hc (by simp only [x_fun]; unfold x_callV; simp only [List.getElem?_cons_succ, List.getElem?_cons_zero, ha, if_true]; unfold x_call; rw [if_neg (fun z => z.elim (fun q => by simp at q <;> omega) (fun q => Nat.not_lt.mpr hr q))]; rfl) hd he k
theorem q_callI2 {v1 v2 : Value} {i x d' : Nat} {r1 : Option Value} {h1 : XH} (hc : M.2.2.2.2[pc]? = some (.invokespecial i, n, a, 2, ci, pos)) (hne : (a == 9998) = false) (hr : (r.map fun v => v.category).sum ≤ 8) (hd : d' ≤ d) (he : x_ev X xT d' a [.ref x, v1, v2] h r1 h1) (k : Wp X xT d M n L (r1.toList ++ r) h1 P) : Wp X xT d M pc L (v2 :: v1 :: .ref x :: r) h P := q_call hc (by simp only [x_fun]; rw [if_neg (by simpa using hne)]; unfold x_callI; simp only [List.getElem?_cons_succ, List.getElem?_cons_zero]; unfold x_call; rw [if_neg (fun z => z.elim (fun q => by simp at q <;> omega) (fun q => Nat.not_lt.mpr hr q))]; rfl) hd he k
theorem q_callS3 {v1 v2 v3 : Value} {i d' : Nat} {r1 : Option Value} {h1 : XH} (hc : M.2.2.2.2[pc]? = some (.invokestatic i, n, a, 3, ci, pos)) (hne : (a == 9999) = false) (hr : (r.map fun v => v.category).sum ≤ 8) (hd : d' ≤ d) (he : x_ev X xT d' a [v1, v2, v3] h r1 h1) (k : Wp X xT d M n L (r1.toList ++ r) h1 P) : Wp X xT d M pc L (v3 :: v2 :: v1 :: r) h P := q_call hc (by simp only [x_fun]; rw [if_neg (by simpa using hne)]; unfold x_call; rw [if_neg (fun z => z.elim (fun q => by simp at q <;> omega) (fun q => Nat.not_lt.mpr hr q))]; rfl) hd he k
theorem q_callV3 {v1 v2 v3 : Value} {i x d' : Nat} {fs : List Value} {r1 : Option Value} {h1 : XH} (hc : M.2.2.2.2[pc]? = some (.invokevirtual i, n, a, 3, ci, pos)) (ha : h[x]? = some (.inr (ci, fs))) (hr : (r.map fun v => v.category).sum ≤ 8) (hd : d' ≤ d) (he : x_ev X xT d' a [.ref x, v1, v2, v3] h r1 h1) (k : Wp X xT d M n L (r1.toList ++ r) h1 P) : Wp X xT d M pc L (v3 :: v2 :: v1 :: .ref x :: r) h P := q_call hc (by simp only [x_fun]; unfold x_callV; simp only [List.getElem?_cons_succ, List.getElem?_cons_zero, ha, if_true]; unfold x_call; rw [if_neg (fun z => z.elim (fun q => by simp at q <;> omega) (fun q => Nat.not_lt.mpr hr q))]; rfl) hd he k
theorem q_callS4 {v1 v2 v3 v4 : Value} {i d' : Nat} {r1 : Option Value} {h1 : XH} (hc : M.2.2.2.2[pc]? = some (.invokestatic i, n, a, 4, ci, pos)) (hne : (a == 9999) = false) (hr : (r.map fun v => v.category).sum ≤ 8) (hd : d' ≤ d) (he : x_ev X xT d' a [v1, v2, v3, v4] h r1 h1) (k : Wp X xT d M n L (r1.toList ++ r) h1 P) : Wp X xT d M pc L (v4 :: v3 :: v2 :: v1 :: r) h P := q_call hc (by simp only [x_fun]; rw [if_neg (by simpa using hne)]; unfold x_call; rw [if_neg (fun z => z.elim (fun q => by simp at q <;> omega) (fun q => Nat.not_lt.mpr hr q))]; rfl) hd he k
theorem q_callV4 {v1 v2 v3 v4 : Value} {i x d' : Nat} {fs : List Value} {r1 : Option Value} {h1 : XH} (hc : M.2.2.2.2[pc]? = some (.invokevirtual i, n, a, 4, ci, pos)) (ha : h[x]? = some (.inr (ci, fs))) (hr : (r.map fun v => v.category).sum ≤ 8) (hd : d' ≤ d) (he : x_ev X xT d' a [.ref x, v1, v2, v3, v4] h r1 h1) (k : Wp X xT d M n L (r1.toList ++ r) h1 P) : Wp X xT d M pc L (v4 :: v3 :: v2 :: v1 :: .ref x :: r) h P := q_call hc (by simp only [x_fun]; unfold x_callV; simp only [List.getElem?_cons_succ, List.getElem?_cons_zero, ha, if_true]; unfold x_call; rw [if_neg (fun z => z.elim (fun q => by simp at q <;> omega) (fun q => Nat.not_lt.mpr hr q))]; rfl) hd he k
theorem q_callS5 {v1 v2 v3 v4 v5 : Value} {i d' : Nat} {r1 : Option Value} {h1 : XH} (hc : M.2.2.2.2[pc]? = some (.invokestatic i, n, a, 5, ci, pos)) (hne : (a == 9999) = false) (hr : (r.map fun v => v.category).sum ≤ 8) (hd : d' ≤ d) (he : x_ev X xT d' a [v1, v2, v3, v4, v5] h r1 h1) (k : Wp X xT d M n L (r1.toList ++ r) h1 P) : Wp X xT d M pc L (v5 :: v4 :: v3 :: v2 :: v1 :: r) h P := q_call hc (by simp only [x_fun]; rw [if_neg (by simpa using hne)]; unfold x_call; rw [if_neg (fun z => z.elim (fun q => by simp at q <;> omega) (fun q => Nat.not_lt.mpr hr q))]; rfl) hd he k
theorem q_callV5 {v1 v2 v3 v4 v5 : Value} {i x d' : Nat} {fs : List Value} {r1 : Option Value} {h1 : XH} (hc : M.2.2.2.2[pc]? = some (.invokevirtual i, n, a, 5, ci, pos)) (ha : h[x]? = some (.inr (ci, fs))) (hr : (r.map fun v => v.category).sum ≤ 8) (hd : d' ≤ d) (he : x_ev X xT d' a [.ref x, v1, v2, v3, v4, v5] h r1 h1) (k : Wp X xT d M n L (r1.toList ++ r) h1 P) : Wp X xT d M pc L (v5 :: v4 :: v3 :: v2 :: v1 :: .ref x :: r) h P := q_call hc (by simp only [x_fun]; unfold x_callV; simp only [List.getElem?_cons_succ, List.getElem?_cons_zero, ha, if_true]; unfold x_call; rw [if_neg (fun z => z.elim (fun q => by simp at q <;> omega) (fun q => Nat.not_lt.mpr hr q))]; rfl) hd he k
theorem q_callS6 {v1 v2 v3 v4 v5 v6 : Value} {i d' : Nat} {r1 : Option Value} {h1 : XH} (hc : M.2.2.2.2[pc]? = some (.invokestatic i, n, a, 6, ci, pos)) (hne : (a == 9999) = false) (hr : (r.map fun v => v.category).sum ≤ 8) (hd : d' ≤ d) (he : x_ev X xT d' a [v1, v2, v3, v4, v5, v6] h r1 h1) (k : Wp X xT d M n L (r1.toList ++ r) h1 P) : Wp X xT d M pc L (v6 :: v5 :: v4 :: v3 :: v2 :: v1 :: r) h P := q_call hc (by simp only [x_fun]; rw [if_neg (by simpa using hne)]; unfold x_call; rw [if_neg (fun z => z.elim (fun q => by simp at q <;> omega) (fun q => Nat.not_lt.mpr hr q))]; rfl) hd he k
theorem q_callV6 {v1 v2 v3 v4 v5 v6 : Value} {i x d' : Nat} {fs : List Value} {r1 : Option Value} {h1 : XH} (hc : M.2.2.2.2[pc]? = some (.invokevirtual i, n, a, 6, ci, pos)) (ha : h[x]? = some (.inr (ci, fs))) (hr : (r.map fun v => v.category).sum ≤ 8) (hd : d' ≤ d) (he : x_ev X xT d' a [.ref x, v1, v2, v3, v4, v5, v6] h r1 h1) (k : Wp X xT d M n L (r1.toList ++ r) h1 P) : Wp X xT d M pc L (v6 :: v5 :: v4 :: v3 :: v2 :: v1 :: .ref x :: r) h P := q_call hc (by simp only [x_fun]; unfold x_callV; simp only [List.getElem?_cons_succ, List.getElem?_cons_zero, ha, if_true]; unfold x_call; rw [if_neg (fun z => z.elim (fun q => by simp at q <;> omega) (fun q => Nat.not_lt.mpr hr q))]; rfl) hd he k
end QRules
end
section
-- ===== end of PART A; then your names; then what follows =====
/-! THE CLAIM OUT OF ONE WALK OF THE LAW'S BODY. Your part is whole_start (and what it stands on); all else here is the same for every law, but numbers. -/
def R_law : String := "DomeSlitLaw"
def lw_P (b : Addr) (xs : List Int32) (args : Array Value) (s : State) : Prop := args = #[.ref b] ∧ s.IntsAt b xs ∧ xs.length ≤ 384 ∧ (Jvm.Cond.and given_1 narrow_1).before args s = true
def lw_Q (_ : Array Value) (s : State) (o : Outcome) (t : State) : Prop := o = .returned (some (.int 1)) ∧ Framed s o t [] 600000 7302250
def lw_Z (below : List Frame) (a : Array Value) (s : State) : State → Prop := fun t => ∃ o, t.status = .running ∧ Ended t below o ∧ lw_Q a s o t
/-- the law's own end, with 1 on the stack, nothing written that was there before, its room as the claim has it -/
theorem lw_ret {p : Program} {l : Launch} {e : Env} {s : State} {m : MethodId} {below : List Frame} {meth : Method} {c : Code} {b : Nat} (hx : p.tables.exec = Jvm.exec) (hb : c.code = code) (hr : meth.sig.returnType = ret) (hlocks : meth.locks = false) {pc : Nat} {H : Heap} {ls : Array Slot} (hdg : decode code pc = .ok (.ireturn, 1)) : W p l e room_1 s m #[Value.ref b] below meth c H [] 600000 7302250 (lw_Z below #[Value.ref b] s) (F0 m pc ls [.int 1]) := by
  intro T hT X
  obtain ⟨fs, hret, hrun, hended, hW, hframe⟩ := X.leave (v := some (.int 1)) (hlocks := hlocks) (fun h => by rw [hr] at h; cases h)
  have hmeth' : T.vm.method? m = some meth := X.method'
  refine ⟨T.setFrames fs, ?_, .returned (some (.int 1)), hrun, hended, rfl, ⟨_, rfl⟩, hW, hframe⟩
  jvm_step X.here [X.here.top, hx, hb, hdg, hmeth', hr, ret, narrow_b1]
  (try refine ⟨rfl, ?_⟩); (try refine ⟨rfl, ?_⟩)
  first | (intro acts; rw [hret _ acts rfl rfl rfl]) | rw [hret _ _ rfl rfl rfl]
  exact Steps.refl _
/-- what holds at the law's entry: the machine, the code, the tables' words (any of lw_tbl by 'hts w (by decide +kernel)'), the script of L ints xs at the cell b, what the Statement gives of the start (any of its parts by flat_of_before) -/
def lw_At (p : Program) (s : State) (m : MethodId) (meth : Method) (c : Code) (b L : Nat) (xs : Nat → Int32) : Prop :=
  p.tables.exec = Jvm.exec ∧ c.code = code ∧ meth.sig.returnType = ret ∧ c.maxLocals = 4 ∧ s.vm.findClass R_law = some m.cls ∧ (∀ w ∈ lw_tbl, w.before #[Value.ref b] s = true) ∧ va_X b L xs s s.heap ∧ b < s.heap.size ∧ meth.locks = false ∧ (Jvm.Cond.and given_1 narrow_1).before #[Value.ref b] s = true
/-! THE LAW OUT OF A RUN OF OUR MACHINE -/
theorem x_arr {s : State} {args : Array Value} {ty : FieldType} (hty : ty = .int ∨ ty = .long) (h : (Jvm.Cond.arrayClass ty).before args s = true) : ∃ cA : ClassId, ArrOfT s cA ty ∧ va_RA s cA ty := by
  obtain ⟨cA, kA, comp, h1, h2, h3⟩ := Cond.arrayClass_spec h
  refine ⟨cA, fun n z => ⟨fun k h => (by cases h), kA, h2, comp, h3⟩, ?_⟩
  rcases hty with rfl | rfl <;> exact h1
theorem x_arro {s : State} {args : Array Value} {C : String} (h : (Jvm.Cond.arrayOver (.object C)).before args s = true) : ∃ cA : ClassId, ArrOfT s cA (.object C) ∧ va_RA s cA (.object C) := by
  obtain ⟨comp, cA, kA, h1, -, h3, h4, h5⟩ := Cond.arrayOver_spec h
  exact ⟨cA, fun n z => ⟨fun k h => (by cases h), kA, h3, comp, h4⟩, kA, comp, h3, h4, h1, h5⟩
set_option maxRecDepth 100000 in
theorem x_wl2 : Jvm.Cond.arrayOver (.object RX2) ∈ lw_tbl := by decide +kernel
set_option maxRecDepth 100000 in
theorem x_wl1 : Jvm.Cond.arrayOver (.object RX1) ∈ lw_tbl := by decide +kernel
set_option maxRecDepth 100000 in
theorem x_wl3 : Jvm.Cond.arrayOver (.object RX3) ∈ lw_tbl := by decide +kernel
set_option maxRecDepth 100000 in
theorem x_wls : Jvm.Cond.laysStatic RX4 "LETTERS" "[I" ∈ lw_tbl := by decide +kernel
theorem x_gdT {w : Jvm.Cond} (h : w ∈ lw_gd) : w ∈ lw_tbl := (List.mem_filter.mp h).1
theorem x_KC {s : State} {args : Array Value} (hts : ∀ w ∈ lw_gd, w.before args s = true) : ∃ (dC : Nat → ClassId) (dI : Nat → Nat → Nat), ∀ (k : Nat) (q : vw_C), vwCl[k]? = some q → u_Kn s q.1 q.2.1 q.2.2 (dC k) (dI k) := by
  have key : ∀ k : Nat, ∃ (c : ClassId) (i : Nat → Nat), ∀ q : vw_C, vwCl[k]? = some q → u_Kn s q.1 q.2.1 q.2.2 c i := by
    intro k
    cases hk : vwCl[k]? with
    | none => exact ⟨0, fun _ => 0, fun q h => by cases h⟩
    | some q =>
      obtain ⟨ty0, lf2, e1, e2, e3, e4, e5, hw, hi1, hi2⟩ := x_CI_at hk
      obtain ⟨c, i, h⟩ := u_known (C := q.1) (T := q.2.1) (N := q.2.2) (n := q.2.2) hts hw (hts _ hi1)
      exact ⟨c, i, fun q' h' => by cases h'; exact h⟩
  exact ⟨fun k => Classical.choose (key k), fun k => Classical.choose (Classical.choose_spec (key k)), fun k q h => Classical.choose_spec (Classical.choose_spec (key k)) q h⟩
set_option maxHeartbeats 4000000 in
set_option maxRecDepth 100000 in
theorem x_letters {s : State} {args : Array Value} (hgv : (Jvm.Cond.and given_1 narrow_1).before args s = true) {A : Nat → Prop} (hA : ∀ a : Nat, a < s.heap.size → ¬ A a) : ∃ t : Nat, (Term.static RX4 "LETTERS" "[I").eval args s none [] s = some (.ref t) ∧ va_T .int t 6 (fun j => .int (x_let j)) A s s.heap := by
  have hs := flat_of_before _ hgv
  refine va_Tof (Nat.le_of_ble_eq_true rfl) (hs (.arrayOf (.static RX4 "LETTERS" "[I") .int) (by decide +kernel)) (va_eqt (hs (.eq (.length (.static RX4 "LETTERS" "[I")) (.int 6)) (by decide +kernel))) (fun j hj => ?_) hA
  rcases (show j = 0 ∨ j = 1 ∨ j = 2 ∨ j = 3 ∨ j = 4 ∨ j = 5 by omega) with rfl | rfl | rfl | rfl | rfl | rfl
  · exact va_eqt (hs (.eq (.elem (.static RX4 "LETTERS" "[I") (.int 0)) (.int 115)) (by decide +kernel))
  · exact va_eqt (hs (.eq (.elem (.static RX4 "LETTERS" "[I") (.int 1)) (.int 108)) (by decide +kernel))
  · exact va_eqt (hs (.eq (.elem (.static RX4 "LETTERS" "[I") (.int 2)) (.int 104)) (by decide +kernel))
  · exact va_eqt (hs (.eq (.elem (.static RX4 "LETTERS" "[I") (.int 3)) (.int 118)) (by decide +kernel))
  · exact va_eqt (hs (.eq (.elem (.static RX4 "LETTERS" "[I") (.int 4)) (.int 112)) (by decide +kernel))
  · exact va_eqt (hs (.eq (.elem (.static RX4 "LETTERS" "[I") (.int 5)) (.int 102)) (by decide +kernel))
/-- what is to be shown of our machine's run of the law -/
def x_law : Prop := ∀ X : XX, X.1 ≤ 384 → Wp X xT 8 mL_law 0 [some (.ref 1000), none, none, none] [] [] (fun r h' => r = some (.int 1) ∧ h'.length ≤ 600000 ∧ x_ss h' ≤ 7302250)
set_option maxHeartbeats 4000000 in
set_option maxRecDepth 100000 in
theorem whole_start_of (hlaw : x_law) {p : Program} {e : Env} {s : State} {m : MethodId} {below : List Frame} {meth : Method} {c : Code} (l : Launch) {b L : Nat} {xs : Nat → Int32} (hL : L ≤ 384) (C0 : lw_At p s m meth c b L xs) : W p l e room_1 s m #[Value.ref b] below meth c s.heap [] 0 0 (lw_Z below #[Value.ref b] s) (entryFrame m ([Value.ref b] : List Value).toArray 4) := by
  obtain ⟨hx, hb, hr, hml, hown, hts, hX, hbl, hlocks, hgv⟩ := C0
  have htg : ∀ w ∈ lw_gd, w.before #[Value.ref b] s = true := fun w h => hts w (x_gdT h)
  obtain ⟨dC, dI, hKc⟩ := x_KC htg
  obtain ⟨a0, A0⟩ := x_arr (Or.inl rfl) (htg _ x_wint)
  obtain ⟨a1, A1⟩ := x_arr (Or.inr rfl) (htg _ x_wlong)
  obtain ⟨a2, A2⟩ := x_arro (hts _ x_wl2)
  obtain ⟨a3, A3⟩ := x_arro (hts _ x_wl1)
  obtain ⟨a4, A4⟩ := x_arro (hts _ x_wl3)
  obtain ⟨tL, hev, hT⟩ := x_letters hgv (A := fun q => s.heap.size ≤ q) (fun a h => Nat.not_le.mpr h)
  obtain ⟨g, hg⟩ : ∃ g : XG, g = (s.heap.size, b, tL, fun k => if k = 0 then a0 else if k = 1 then a1 else if k = 2 then a2 else if k = 3 then a3 else a4) := ⟨_, rfl⟩
  have hgz : g.1 = s.heap.size := by rw [hg]
  have hA : x_A g = fun q => s.heap.size ≤ q := by unfold x_A; rw [hgz]
  have hK : va_K (dC, dI) vwCl (x_tys g) s := by
    refine ⟨hKc, fun k q h => ?_⟩
    subst hg
    match k, h with
    | 0, h => cases h; exact A0
    | 1, h => cases h; exact A1
    | 2, h => cases h; exact A2
    | 3, h => cases h; exact A3
    | 4, h => cases h; exact A4
    | k + 5, h => simp [x_tys] at h
  have hRO : x_RO g (L, xs) s s.heap := by
    unfold x_RO
    rw [hA]
    subst hg
    exact ⟨hX, hbl, va_Zof (hts _ x_wls) (hts _ (x_gdT x_CI4.choose_spec.choose_spec.2.2.2.2.2.2.2)) hev (fun a h => Nat.not_le.mpr h), hT⟩
  have hNW : x_NW s := by
    refine ⟨fun w hw => ?_, va_AO.of (hts _ x_wl2), va_AO.of (hts _ x_wl1), va_AO.of (hts _ x_wl3)⟩
    have h1 := hts w (List.mem_filter.mp hw).1
    have h6 := (List.mem_filter.mp hw).2
    cases w <;> first | (simp [x_isN] at h6; done) | exact va_tabs rfl rfl h1
  obtain ⟨n, hn⟩ := hlaw (L, xs) hL
  obtain ⟨r, h', ⟨hr1, hc1, hc2⟩, hrun⟩ := x_det _ _ _ _ _ hn
  subst hr1
  have hS : va_S (x_A g) s.heap s.heap [] := va_S.rf
  have hmap : [Value.ref b] = ([.ref 1000] : List Value).map (x_cv g) := by
    subst hg
    rfl
  have C1 : x_Ctx p s m #[Value.ref b] meth c mL_law (dC, dI) g (L, xs) := ⟨hx, hb, hml, hown, htg, hK, hRO, hNW, fun h => absurd h (by decide)⟩
  have hW0 : x_Wd (dC, dI) g [] s.heap := ⟨by rw [hgz]; rfl, Nat.zero_le _, fun k q h => by simp [x_W] at h⟩
  rw [hmap, lg_entry_eq, ← hmap]
  have key := x_frame (l := l) (below := below) (e := e) (Q := lw_Z below #[Value.ref b] s) (R := room_1) (k0 := 0) (s0 := 0) (D := (dC, dI)) (g := g) (X := (L, xs)) (fun μ as h r h' he => x_sound l (dC, dI) g (L, xs) 8 μ as h r h' he) C1 ⟨by decide, by decide⟩ (fun pc e h => oL_at h) ⟨hc1, hc2⟩ (fun pc e0 L1 st hk hf H locs ls hW hS => ?_) n 0 [some (.ref 1000), none, none, none] [] [] hrun s.heap [] ((lg_sl ([.ref 1000].map (x_cv g)) ++ List.replicate (4 - (lg_sl ([.ref 1000].map (x_cv g))).length) Slot.unset).toArray) hW0 hS (x_LR_ent g [.ref 1000] 4 (by decide)) rfl (Nat.zero_le _) (Nat.zero_le _)
  · rw [← hmap] at key
    exact key
  · obtain ⟨ins, n1, a, b1, ci, pos⟩ := e0
    have h8 := x_other hf
    rcases h8 with ⟨i, h9⟩ | ⟨i, h9⟩ | ⟨i, h9⟩ | ⟨h9, -⟩
    · cases h9
      exact absurd hf (x_noret (by intro z; cases z) (by intro z; cases z) (by intro z; cases z) (by intro z; cases z))
    · cases h9
      exact absurd hf (x_noret (by intro z; cases z) (by intro z; cases z) (by intro z; cases z) (by intro z; cases z))
    · cases h9
      exact absurd hf (x_noret (by intro z; cases z) (by intro z; cases z) (by intro z; cases z) (by intro z; cases z))
    · rcases h9 with h9 | h9 | h9 | h9
      · have h10 : ins = .ireturn := h9
        subst h10
        obtain ⟨hn, hd, hv⟩ := x_ok_spec hk (by intro z; cases z) (by intro _ _ _ _ z; cases z)
        simp only [x_fun, x_ret] at hf
        split at hf
        · split at hf
          · cases hf
            refine va_forget (fun q hq => ?_) (W.widen (k := 600000) (n := 7302250) hc1 hc2 (lw_ret hx hb hr hlocks hd))
            have h11 := hS.2.2 q hq
            rw [hA] at h11
            exact h11
          · cases hf
        · cases hf
      · have h10 : ins = .lreturn := h9
        subst h10
        simp only [x_fun, x_retL] at hf
        split at hf <;> cases hf
      · have h10 : ins = .areturn := h9
        subst h10
        simp only [x_fun, x_retA] at hf
        split at hf <;> cases hf
      · have h10 : ins = .return_ := h9
        subst h10
        simp only [x_fun, x_retV] at hf
        split at hf <;> cases hf
end
section
/-! OUR MACHINE AS A FUNCTION, for runs without unknowns (the constructors); it never reads the two arrays that nobody writes -/
def x_X0 : XX := (0, fun _ => 0)
def x_funN (M : XM) (pc : Nat) (e : XE) (L : XL) (st : List Value) (h : XH) : Option XO := match e.1 with
  | .iaload => match st with
    | _ :: .ref a :: _ => if a < 1000 then x_fun x_X0 M pc e L st h else none
    | _ => none
  | .arraylength => match st with
    | .ref a :: _ => if a < 1000 then x_fun x_X0 M pc e L st h else none
    | _ => none
  | _ => x_fun x_X0 M pc e L st h
theorem x_funN_ok {X : XX} {M : XM} {pc : Nat} {e : XE} {L : XL} {st : List Value} {h : XH} {q : XO} (hf : x_funN M pc e L st h = some q) : x_fun X M pc e L st h = some q := by
  obtain ⟨ins, n, a, b, ci, pos⟩ := e
  cases ins
  case iaload =>
    simp only [x_funN] at hf
    split at hf
    · rename_i v a r
      split at hf
      · rename_i ha
        rw [← hf]
        simp only [x_fun, x_iald]
        cases v <;> simp [x_ro_none ha]
      · cases hf
    · cases hf
  case arraylength =>
    simp only [x_funN] at hf
    split at hf
    · rename_i a r
      split at hf
      · rename_i ha
        rw [← hf]
        simp only [x_fun, x_alen, x_ro_none ha]
      · cases hf
    · cases hf
  case newarray t => cases t <;> exact hf
  all_goals exact hf
def x_exF (call : Nat → List Value → XH → Option (Option Value × XH)) (M : XM) : Nat → Nat → XL → List Value → XH → Option (Option Value × XH)
  | 0, _, _, _, _ => none
  | n + 1, pc, L, st, h => match M.2.2.2.2[pc]? with
    | none => none
    | some e => match x_funN M pc e L st h with
      | some (.inl q) => x_exF call M n q.1 q.2.1 q.2.2.1 q.2.2.2
      | some (.inr (.inl q)) => some q
      | some (.inr (.inr q)) => match call q.1 q.2.1 h with
        | some r => x_exF call M n e.2.1 L (r.1.toList ++ q.2.2) r.2
        | none => none
      | none => none
def x_exC (T : List XM) (fuel : Nat) : Nat → Nat → List Value → XH → Option (Option Value × XH)
  | 0, _, _, _ => none
  | d + 1, μ, as, h => match T[μ]? with
    | none => none
    | some M => if (as.flatMap x_exp).length ≤ M.2.2.1 then x_exF (x_exC T fuel d) M fuel 0 (x_ent as M.2.2.1) [] h else none
theorem x_exF_ok {X : XX} {M : XM} {c1 : Nat → List Value → XH → Option (Option Value × XH)} {c2 : Nat → List Value → XH → Option Value → XH → Prop} (hc : ∀ μ as h q, c1 μ as h = some q → c2 μ as h q.1 q.2) {r : Option Value} {h' : XH} : ∀ (n pc : Nat) (L : XL) (st : List Value) (h : XH), x_exF c1 M n pc L st h = some (r, h') → x_run X c2 M n pc L st h (fun r' h'' => r' = r ∧ h'' = h') := by
  intro n
  induction n with
  | zero => intro pc L st h hr; cases hr
  | succ n ih =>
    intro pc L st h hr
    simp only [x_exF] at hr
    split at hr
    · cases hr
    · rename_i e he
      refine ⟨e, he, ?_⟩
      split at hr
      · rename_i q hq
        rw [x_funN_ok (X := X) hq]
        exact ih _ _ _ _ hr
      · rename_i q hq
        rw [x_funN_ok (X := X) hq]
        cases hr
        exact ⟨rfl, rfl⟩
      · rename_i q hq
        rw [x_funN_ok (X := X) hq]
        split at hr
        · rename_i r1 hr1
          exact ⟨_, _, hc _ _ _ _ hr1, ih _ _ _ _ hr⟩
        · cases hr
      · cases hr
theorem x_exC_ok {X : XX} {T : List XM} {fuel : Nat} : ∀ (d μ : Nat) (as : List Value) (h : XH) (q : Option Value × XH), x_exC T fuel d μ as h = some q → x_ev X T d μ as h q.1 q.2 := by
  intro d
  induction d with
  | zero => intro μ as h q hr; cases hr
  | succ d ih =>
    intro μ as h q hr
    simp only [x_exC] at hr
    split at hr
    · cases hr
    · rename_i M hM
      split at hr
      · rename_i hl
        exact ⟨M, fuel, hM, hl, x_exF_ok (fun μ as h q hq => ih μ as h q hq) _ _ _ _ _ hr⟩
      · cases hr
end
section
/-! THE HEAP behind both constructors: cells 0 to 50 the class, 51 to 69 the reference; I, A, J, B: what its ints, int arrays, longs, long arrays hold; F: which arrays the swapped fields name -/
def xr1 : Nat → Option Nat := (va_up (va_up (va_up (va_up (va_up (va_up (fun _ => none) 0 (some 20)) 1 (some 22)) 2 (some 24)) 3 (some 26)) 4 (some 28)) 5 (some 30))
def xr2 : Nat → Option Nat := (va_up (va_up (va_up (va_up (fun _ => none) 0 (some 32)) 1 (some 34)) 2 (some 36)) 3 (some 38))
def xr5 : Nat → Option Nat := (va_up (va_up (va_up (va_up (va_up (fun _ => none) 0 (some 40)) 1 (some 41)) 2 (some 42)) 3 (some 43)) 4 (some 44))
def xr10 : Nat → Option Nat := (va_up (va_up (va_up (fun _ => none) 0 (some 45)) 1 (some 47)) 2 (some 49))
def HC (I A : Nat → Nat → Int32) (J B : Nat → Nat → Int64) (F : Nat → Nat) : XH := [.inr (8, [.ref 1, .ref 2, .ref 3, .ref 5, .ref 6, .ref 7, .ref 8, .ref 10, .ref 11, .ref 13, .ref 16, .ref 19, .int (I 0 12), .int (I 0 13), .int (I 0 14), .long (J 0 15), .long (J 0 16)]), .inl (2, 6, .inr (.inr (.inr (.inr xr1)))), .inl (2, 4, .inr (.inr (.inr (.inr xr2)))), .inr (4, [.ref 4, .int (I 3 1), .int (I 3 2), .int (I 3 3), .int (I 3 4), .int (I 3 5)]), .inl (0, 20, .inl (A 4)), .inl (3, 5, .inr (.inr (.inr (.inr xr5)))), .inr (1, [.int (I 6 0), .int (I 6 1), .int (I 6 2), .int (I 6 3)]), .inr (6, [.int (I 7 0), .int (I 7 1)]), .inr (3, [.ref 9, .int (I 8 1), .int (I 8 2), .int (I 8 3), .int (I 8 4)]), .inl (0, 40, .inl (A 9)), .inl (4, 3, .inr (.inr (.inr (.inr xr10)))), .inr (7, [.ref 12]), .inl (0, 192, .inl (A 12)), .inr (0, [.ref 7, .ref 11, .ref (F 0), .ref (F 1)]), .inl (0, 984, .inl (A 14)), .inl (0, 984, .inl (A 15)), .inr (5, [.ref 11, .ref (F 2), .ref (F 3), .long (J 16 3)]), .inl (1, 24, .inr (.inl (B 17))), .inl (1, 24, .inr (.inl (B 18))), .inl (0, 6, .inl (A 19)), .inr (2, [.ref 21, .int (I 20 1)]), .inl (0, 40, .inl (A 21)), .inr (2, [.ref 23, .int (I 22 1)]), .inl (0, 40, .inl (A 23)), .inr (2, [.ref 25, .int (I 24 1)]), .inl (0, 40, .inl (A 25)), .inr (2, [.ref 27, .int (I 26 1)]), .inl (0, 40, .inl (A 27)), .inr (2, [.ref 29, .int (I 28 1)]), .inl (0, 40, .inl (A 29)), .inr (2, [.ref 31, .int (I 30 1)]), .inl (0, 40, .inl (A 31)), .inr (2, [.ref 33, .int (I 32 1)]), .inl (0, 60, .inl (A 33)), .inr (2, [.ref 35, .int (I 34 1)]), .inl (0, 60, .inl (A 35)), .inr (2, [.ref 37, .int (I 36 1)]), .inl (0, 60, .inl (A 37)), .inr (2, [.ref 39, .int (I 38 1)]), .inl (0, 60, .inl (A 39)), .inr (1, [.int (I 40 0), .int (I 40 1), .int (I 40 2), .int (I 40 3)]), .inr (1, [.int (I 41 0), .int (I 41 1), .int (I 41 2), .int (I 41 3)]), .inr (1, [.int (I 42 0), .int (I 42 1), .int (I 42 2), .int (I 42 3)]), .inr (1, [.int (I 43 0), .int (I 43 1), .int (I 43 2), .int (I 43 3)]), .inr (1, [.int (I 44 0), .int (I 44 1), .int (I 44 2), .int (I 44 3)]), .inr (3, [.ref 46, .int (I 45 1), .int (I 45 2), .int (I 45 3), .int (I 45 4)]), .inl (0, 40, .inl (A 46)), .inr (3, [.ref 48, .int (I 47 1), .int (I 47 2), .int (I 47 3), .int (I 47 4)]), .inl (0, 40, .inl (A 48)), .inr (3, [.ref 50, .int (I 49 1), .int (I 49 2), .int (I 49 3), .int (I 49 4)]), .inl (0, 40, .inl (A 50))]
def HM (I A : Nat → Nat → Int32) (J B : Nat → Nat → Int64) : XH := [.inr (9, [.ref 52, .int (I 51 1), .int (I 51 2), .int (I 51 3), .ref 53, .ref 54, .ref 55, .ref 56, .ref 57, .ref 58, .ref 59, .ref 60, .int (I 51 12), .long (J 51 13), .long (J 51 14), .int (I 51 15), .ref 61, .int (I 51 17), .int (I 51 18), .int (I 51 19), .int (I 51 20), .int (I 51 21), .ref 62, .int (I 51 23), .ref 63, .ref 64, .ref 65, .ref 66, .ref 67, .ref 68, .ref 69, .int (I 51 31), .int (I 51 32)]), .inl (0, 496, .inl (A 52)), .inl (0, 5, .inl (A 53)), .inl (0, 5, .inl (A 54)), .inl (0, 5, .inl (A 55)), .inl (0, 5, .inl (A 56)), .inl (0, 6, .inl (A 57)), .inl (0, 240, .inl (A 58)), .inl (0, 4, .inl (A 59)), .inl (0, 240, .inl (A 60)), .inl (0, 6, .inl (A 61)), .inl (0, 20, .inl (A 62)), .inl (0, 216, .inl (A 63)), .inl (0, 312, .inl (A 64)), .inl (0, 984, .inl (A 65)), .inl (0, 984, .inl (A 66)), .inl (0, 5, .inl (A 67)), .inl (0, 72, .inl (A 68)), .inl (0, 72, .inl (A 69))]
def HX (I A : Nat → Nat → Int32) (J B : Nat → Nat → Int64) (F : Nat → Nat) : XH := [.inr (8, [.ref 1, .ref 2, .ref 3, .ref 5, .ref 6, .ref 7, .ref 8, .ref 10, .ref 11, .ref 13, .ref 16, .ref 19, .int (I 0 12), .int (I 0 13), .int (I 0 14), .long (J 0 15), .long (J 0 16)]), .inl (2, 6, .inr (.inr (.inr (.inr xr1)))), .inl (2, 4, .inr (.inr (.inr (.inr xr2)))), .inr (4, [.ref 4, .int (I 3 1), .int (I 3 2), .int (I 3 3), .int (I 3 4), .int (I 3 5)]), .inl (0, 20, .inl (A 4)), .inl (3, 5, .inr (.inr (.inr (.inr xr5)))), .inr (1, [.int (I 6 0), .int (I 6 1), .int (I 6 2), .int (I 6 3)]), .inr (6, [.int (I 7 0), .int (I 7 1)]), .inr (3, [.ref 9, .int (I 8 1), .int (I 8 2), .int (I 8 3), .int (I 8 4)]), .inl (0, 40, .inl (A 9)), .inl (4, 3, .inr (.inr (.inr (.inr xr10)))), .inr (7, [.ref 12]), .inl (0, 192, .inl (A 12)), .inr (0, [.ref 7, .ref 11, .ref (F 0), .ref (F 1)]), .inl (0, 984, .inl (A 14)), .inl (0, 984, .inl (A 15)), .inr (5, [.ref 11, .ref (F 2), .ref (F 3), .long (J 16 3)]), .inl (1, 24, .inr (.inl (B 17))), .inl (1, 24, .inr (.inl (B 18))), .inl (0, 6, .inl (A 19)), .inr (2, [.ref 21, .int (I 20 1)]), .inl (0, 40, .inl (A 21)), .inr (2, [.ref 23, .int (I 22 1)]), .inl (0, 40, .inl (A 23)), .inr (2, [.ref 25, .int (I 24 1)]), .inl (0, 40, .inl (A 25)), .inr (2, [.ref 27, .int (I 26 1)]), .inl (0, 40, .inl (A 27)), .inr (2, [.ref 29, .int (I 28 1)]), .inl (0, 40, .inl (A 29)), .inr (2, [.ref 31, .int (I 30 1)]), .inl (0, 40, .inl (A 31)), .inr (2, [.ref 33, .int (I 32 1)]), .inl (0, 60, .inl (A 33)), .inr (2, [.ref 35, .int (I 34 1)]), .inl (0, 60, .inl (A 35)), .inr (2, [.ref 37, .int (I 36 1)]), .inl (0, 60, .inl (A 37)), .inr (2, [.ref 39, .int (I 38 1)]), .inl (0, 60, .inl (A 39)), .inr (1, [.int (I 40 0), .int (I 40 1), .int (I 40 2), .int (I 40 3)]), .inr (1, [.int (I 41 0), .int (I 41 1), .int (I 41 2), .int (I 41 3)]), .inr (1, [.int (I 42 0), .int (I 42 1), .int (I 42 2), .int (I 42 3)]), .inr (1, [.int (I 43 0), .int (I 43 1), .int (I 43 2), .int (I 43 3)]), .inr (1, [.int (I 44 0), .int (I 44 1), .int (I 44 2), .int (I 44 3)]), .inr (3, [.ref 46, .int (I 45 1), .int (I 45 2), .int (I 45 3), .int (I 45 4)]), .inl (0, 40, .inl (A 46)), .inr (3, [.ref 48, .int (I 47 1), .int (I 47 2), .int (I 47 3), .int (I 47 4)]), .inl (0, 40, .inl (A 48)), .inr (3, [.ref 50, .int (I 49 1), .int (I 49 2), .int (I 49 3), .int (I 49 4)]), .inl (0, 40, .inl (A 50)), .inr (9, [.ref 52, .int (I 51 1), .int (I 51 2), .int (I 51 3), .ref 53, .ref 54, .ref 55, .ref 56, .ref 57, .ref 58, .ref 59, .ref 60, .int (I 51 12), .long (J 51 13), .long (J 51 14), .int (I 51 15), .ref 61, .int (I 51 17), .int (I 51 18), .int (I 51 19), .int (I 51 20), .int (I 51 21), .ref 62, .int (I 51 23), .ref 63, .ref 64, .ref 65, .ref 66, .ref 67, .ref 68, .ref 69, .int (I 51 31), .int (I 51 32)]), .inl (0, 496, .inl (A 52)), .inl (0, 5, .inl (A 53)), .inl (0, 5, .inl (A 54)), .inl (0, 5, .inl (A 55)), .inl (0, 5, .inl (A 56)), .inl (0, 6, .inl (A 57)), .inl (0, 240, .inl (A 58)), .inl (0, 4, .inl (A 59)), .inl (0, 240, .inl (A 60)), .inl (0, 6, .inl (A 61)), .inl (0, 20, .inl (A 62)), .inl (0, 216, .inl (A 63)), .inl (0, 312, .inl (A 64)), .inl (0, 984, .inl (A 65)), .inl (0, 984, .inl (A 66)), .inl (0, 5, .inl (A 67)), .inl (0, 72, .inl (A 68)), .inl (0, 72, .inl (A 69))]
def x_I0 (a k : Nat) : Int32 := if (a = 20 ∨ a = 22 ∨ a = 24 ∨ a = 26 ∨ a = 28 ∨ a = 30 ∨ a = 32 ∨ a = 34 ∨ a = 36 ∨ a = 38 ∨ a = 45 ∨ a = 47 ∨ a = 49) ∧ k = 1 then -1 else 0
def x_A0 (a : Nat) : Nat → Int32 := if a = 57 then upd (upd (upd (upd (upd (upd (fun _ => 0) 0 (-1)) 1 (-1)) 2 (-1)) 3 (-1)) 4 (-1)) 5 (-1) else if a = 59 then upd (upd (upd (upd (fun _ => 0) 0 (-1)) 1 (-1)) 2 (-1)) 3 (-1) else if a = 52 then upd (upd (upd (fun _ => 0) 124 (-1)) 248 (-1)) 372 (-1) else fun _ => 0
def x_J0 (a k : Nat) : Int64 := if a = 0 ∧ k = 16 then 1 else if a = 16 ∧ k = 3 then 1 else if a = 51 ∧ k = 14 then 1 else 0
def x_B0 (a : Nat) : Nat → Int64 := fun _ => 0
def x_F0 (k : Nat) : Nat := match k with
  | 0 => 14
  | 1 => 15
  | 2 => 17
  | _ => 18
set_option maxRecDepth 100000 in
set_option maxHeartbeats 4000000 in
theorem x_ctorC : x_exC xT 400 4 79 [.ref 0] [.inr (8, (x_fts.getD 8 []).map x_def)] = some (none, HC x_I0 x_A0 x_J0 x_B0 x_F0) := by rfl
set_option maxRecDepth 100000 in
set_option maxHeartbeats 4000000 in
theorem x_ctorM : x_exC xT 600 3 148 [.ref 51] (HC x_I0 x_A0 x_J0 x_B0 x_F0 ++ [.inr (9, (x_fts.getD 9 []).map x_def)]) = some (none, HX x_I0 x_A0 x_J0 x_B0 x_F0) := by rfl
end
section
/-- the law's first steps: both objects are made -/
theorem x_law_head {X : XX} {P : Option Value → XH → Prop} (k : Wp X xT 8 mL_law 18 [some (.ref 1000), some (.ref 0), some (.ref 51), some (.int 0)] [] (HX x_I0 x_A0 x_J0 x_B0 x_F0) P) : Wp X xT 8 mL_law 0 [some (.ref 1000), none, none, none] [] [] P := by
  refine q_new rfl rfl (Nat.le_of_ble_eq_true rfl) ?_
  refine q_dupA rfl ?_
  refine q_callI0 rfl rfl (Nat.le_of_ble_eq_true rfl) (Nat.le_of_ble_eq_true rfl) (x_exC_ok 4 _ _ _ _ x_ctorC) ?_
  refine q_astore_n (L' := [_, _, _, _]) rfl rfl ?_
  refine q_new rfl rfl (Nat.le_of_ble_eq_true rfl) ?_
  refine q_dupA rfl ?_
  refine q_callI0 rfl rfl (Nat.le_of_ble_eq_true rfl) (Nat.le_of_ble_eq_true rfl) (x_exC_ok 3 _ _ _ _ x_ctorM) ?_
  refine q_astore_n (L' := [_, _, _, _]) rfl rfl ?_
  refine q_iconst (v := 0) rfl rfl ?_
  refine q_istore_n (L' := [_, _, _, _]) rfl rfl ?_
  exact k
end
section
/-! stores once more, with a name for the new heap -/
theorem x_gs {h : XH} {a : Nat} {e e' : va_E} (ha : h[a]? = some e) : (h.set a e')[a]? = some e' := by
  have hl := (List.getElem?_eq_some_iff.mp ha).1
  simp [hl]
theorem x_gn {h : XH} {a y : Nat} {e : va_E} (hne : y ≠ a) {e' : va_E} (hb : h[y]? = some e') : (h.set a e)[y]? = some e' := by
  rw [List.getElem?_set_ne (Ne.symm hne)]
  exact hb
section QRules2
variable {X : XX} {d : Nat} {M : XM} {pc n a b ci pos : Nat} {L L' : XL} {st r : List Value} {h : XH} {P : Option Value → XH → Prop}
theorem q_putX {i x : Nat} {fs : List Value} {v : Value} {ty : FieldType} (hc : M.2.2.2.2[pc]? = some (.putfield i, n, a, b, ci, pos)) (ha : h[x]? = some (.inr (ci, fs))) (ht : x_ft ci b = some ty) (hb : b < fs.length) (hf : fits ty v = true) (hi : x_fin ci b = true → (M.1.name == "<init>") = true)
    (k : ∀ h1 : XH, h1 = h.set x (.inr (ci, fs.set b v)) → h1[x]? = some (.inr (ci, fs.set b v)) → (∀ (y : Nat) (e : va_E), y ≠ x → h[y]? = some e → h1[y]? = some e) → Wp X xT d M n L r h1 P) : Wp X xT d M pc L (v :: .ref x :: r) h P :=
  q_putfield hc ha ht hb hf hi (k _ rfl (x_gs ha) (fun _ _ hne hy => x_gn hne hy))
theorem q_iastX {x i : Int32} {y m : Nat} {f : Nat → Int32} (hc : M.2.2.2.2[pc]? = some (.iastore, n, a, b, ci, pos)) (ha : h[y]? = some (.inl (0, m, .inl f))) (hi : ¬ (i < 0 ∨ m ≤ i.toNatClampNeg))
    (k : ∀ h1 : XH, h1 = h.set y (.inl (0, m, .inl (upd f i.toNatClampNeg x))) → h1[y]? = some (.inl (0, m, .inl (upd f i.toNatClampNeg x))) → (∀ (z : Nat) (e : va_E), z ≠ y → h[z]? = some e → h1[z]? = some e) → Wp X xT d M n L r h1 P) : Wp X xT d M pc L (.int x :: .int i :: .ref y :: r) h P :=
  q_iastore hc ha hi (k _ rfl (x_gs ha) (fun _ _ hne hy => x_gn hne hy))
theorem q_lastX {x : Int64} {i : Int32} {y m : Nat} {f : Nat → Int64} (hc : M.2.2.2.2[pc]? = some (.lastore, n, a, b, ci, pos)) (ha : h[y]? = some (.inl (1, m, .inr (.inl f)))) (hi : ¬ (i < 0 ∨ m ≤ i.toNatClampNeg))
    (k : ∀ h1 : XH, h1 = h.set y (.inl (1, m, .inr (.inl (vp_updL f i.toNatClampNeg x)))) → h1[y]? = some (.inl (1, m, .inr (.inl (vp_updL f i.toNatClampNeg x)))) → (∀ (z : Nat) (e : va_E), z ≠ y → h[z]? = some e → h1[z]? = some e) → Wp X xT d M n L r h1 P) : Wp X xT d M pc L (.long x :: .int i :: .ref y :: r) h P :=
  q_lastore hc ha hi (k _ rfl (x_gs ha) (fun _ _ hne hy => x_gn hne hy))
theorem q_cpyX {i m0 m1 a0 a1 : Nat} {sp dp k0 : Int32} {f g : Nat → Int32} (hc : M.2.2.2.2[pc]? = some (.invokestatic i, n, a, b, ci, pos)) (ha9 : a = 9999) (h0 : h[a0]? = some (.inl (0, m0, .inl f))) (h1 : h[a1]? = some (.inl (0, m1, .inl g))) (hi : ¬ (sp < 0 ∨ dp < 0 ∨ k0 < 0 ∨ m0 < sp.toNatClampNeg + k0.toNatClampNeg ∨ m1 < dp.toNatClampNeg + k0.toNatClampNeg ∨ 8 < (r.map fun v => v.category).sum))
    (k : ∀ h2 : XH, h2 = h.set a1 (.inl (0, m1, .inl (va_cpy f g sp.toNatClampNeg dp.toNatClampNeg k0.toNatClampNeg))) → h2[a1]? = some (.inl (0, m1, .inl (va_cpy f g sp.toNatClampNeg dp.toNatClampNeg k0.toNatClampNeg))) → (∀ (z : Nat) (e : va_E), z ≠ a1 → h[z]? = some e → h2[z]? = some e) → Wp X xT d M n L r h2 P) : Wp X xT d M pc L (.int k0 :: .int dp :: .ref a1 :: .int sp :: .ref a0 :: r) h P :=
  q_cpy hc ha9 h0 h1 hi (k _ rfl (x_gs h1) (fun _ _ hne hy => x_gn hne hy))
end QRules2
/-- a switch by its number -/
def x_swI (pc : Nat) (d lo hi : Int) (offs : Array Int) (v : Int) : Option Nat :=
  if v < lo ∨ hi < v then x_tgt pc d else match offs[(v - lo).toNat]? with
    | some off => x_tgt pc off
    | none => none
theorem x_sw_i {pc : Nat} {d lo hi : Int} {offs : Array Int} {x : Int32} {v : Int} (h : x.toInt = v) : x_sw pc d lo hi offs x = x_swI pc d lo hi offs v := by
  subst h
  rfl
end
section
/-! specs of leaves: Math, Line, Light, Slit, View, Night -/
def f_abs (x : Int32) : Int32 := if 0 ≤ x then x else -x
def f_max (x y : Int32) : Int32 := if x < y then y else x
def f_min (x y : Int32) : Int32 := if y < x then y else x
def f_fmod (x y : Int32) : Int32 := if 0 ≤ x ^^^ y then x - x / y * y else if x - x / y * y = 0 then x - x / y * y else x - x / y * y + y
theorem sJ9_abs_0f7a4 {X : XX} {h : XH} (x : Int32) : x_ev X xT 1 252 [.int x] h (some (.int (f_abs x))) h := by
  refine q_ev (L := [some (.int x)]) tJ9_abs_0f7a4 (Nat.le_of_ble_eq_true rfl) rfl ?_
  refine q_iload_n rfl rfl ?_
  refine q_if_ge rfl (fun hc1 => ?_) (fun hc1 => ?_)
  · refine q_iload_n rfl rfl ?_
    refine q_iret rfl rfl ?_
    exact ⟨by simp [f_abs, *], rfl⟩
  · refine q_iload_n rfl rfl ?_
    refine q_ineg rfl ?_
    refine q_goto rfl ?_
    refine q_iret rfl rfl ?_
    exact ⟨by simp [f_abs, *], rfl⟩
theorem sJ9_max_7cf53 {X : XX} {h : XH} (x y : Int32) : x_ev X xT 1 253 [.int x, .int y] h (some (.int (f_max x y))) h := by
  refine q_ev (L := [some (.int x), some (.int y)]) tJ9_max_7cf53 (Nat.le_of_ble_eq_true rfl) rfl ?_
  refine q_iload_n rfl rfl ?_
  refine q_iload_n rfl rfl ?_
  refine q_icmp_lt rfl (fun hc2 => ?_) (fun hc2 => ?_)
  · refine q_iload_n rfl rfl ?_
    refine q_iret rfl rfl ?_
    exact ⟨by simp [f_max, *], rfl⟩
  · refine q_iload_n rfl rfl ?_
    refine q_goto rfl ?_
    refine q_iret rfl rfl ?_
    exact ⟨by simp [f_max, *], rfl⟩
theorem sJ9_min_7cf53 {X : XX} {h : XH} (x y : Int32) : x_ev X xT 1 254 [.int x, .int y] h (some (.int (f_min x y))) h := by
  refine q_ev (L := [some (.int x), some (.int y)]) tJ9_min_7cf53 (Nat.le_of_ble_eq_true rfl) rfl ?_
  refine q_iload_n rfl rfl ?_
  refine q_iload_n rfl rfl ?_
  refine q_icmp_gt rfl (fun hc2 => ?_) (fun hc2 => ?_)
  · refine q_iload_n rfl rfl ?_
    refine q_iret rfl rfl ?_
    exact ⟨by simp [f_min, *], rfl⟩
  · refine q_iload_n rfl rfl ?_
    refine q_goto rfl ?_
    refine q_iret rfl rfl ?_
    exact ⟨by simp [f_min, *], rfl⟩
theorem sJ9_floorMod_7cf53 {X : XX} {h : XH} (x y : Int32) (hy : ¬ y = 0) : x_ev X xT 1 251 [.int x, .int y] h (some (.int (f_fmod x y))) h := by
  refine q_ev (L := [some (.int x), some (.int y), none]) tJ9_floorMod_7cf53 (Nat.le_of_ble_eq_true rfl) rfl ?_
  refine q_iload_n rfl rfl ?_
  refine q_iload_n rfl rfl ?_
  refine q_irem rfl (hy) ?_
  refine q_istore_n (L' := [_, _, _]) rfl rfl ?_
  refine q_iload_n rfl rfl ?_
  refine q_iload_n rfl rfl ?_
  refine q_ixor rfl ?_
  refine q_if_ge rfl (fun hc7 => ?_) (fun hc7 => ?_)
  · refine q_iload_n rfl rfl ?_
    refine q_iret rfl rfl ?_
    exact ⟨by simp [f_fmod, *], rfl⟩
  · refine q_iload_n rfl rfl ?_
    refine q_if_eq rfl (fun hc11 => ?_) (fun hc11 => ?_)
    · refine q_iload_n rfl rfl ?_
      refine q_iret rfl rfl ?_
      exact ⟨by simp [f_fmod, *], rfl⟩
    · refine q_iload_n rfl rfl ?_
      refine q_iload_n rfl rfl ?_
      refine q_iadd rfl ?_
      refine q_iret rfl rfl ?_
      exact ⟨by simp [f_fmod, *], rfl⟩
def f_rd (x : Int32) : Int32 := f_fmod x 24
theorem sX8_round {X : XX} {h : XH} (x : Int32) : x_ev X xT 2 123 [.int x] h (some (.int (f_rd x))) h := by
  refine q_ev (L := [some (.int x)]) tX8_round (Nat.le_of_ble_eq_true rfl) rfl ?_
  refine q_iload_n rfl rfl ?_
  refine q_bipush (v := 24) rfl rfl ?_
  refine q_callS2 rfl rfl (Nat.le_of_ble_eq_true rfl) (Nat.le_of_ble_eq_true rfl) (sJ9_floorMod_7cf53 x 24 (by decide)) ?_
  refine q_iret rfl rfl ?_
  exact ⟨rfl, rfl⟩
end
section
/-! specs: Line, Light, Slit, Night, View (no loops) -/
theorem x_ne1 {h : XH} {a c : Nat} {u : Nat × List Value} {q : ClassId × vp_A} (ha : h[a]? = some (.inr u)) (hc : h[c]? = some (.inl q)) : c ≠ a := by
  intro e
  subst e
  rw [ha] at hc
  cases hc
theorem x_ne2 {h : XH} {a c : Nat} {u : Nat × List Value} {q : ClassId × vp_A} (ha : h[a]? = some (.inr u)) (hc : h[c]? = some (.inl q)) : a ≠ c := fun e => x_ne1 ha hc e.symm
theorem x_ne3 {h : XH} {a c k j : Nat} {u v : List Value} (ha : h[a]? = some (.inr (k, u))) (hc : h[c]? = some (.inr (j, v))) (hkj : k ≠ j) : a ≠ c := by
  intro e
  subst e
  rw [ha] at hc
  cases hc
  exact hkj rfl
theorem x_ix {i sz : Int32} {m : Nat} (h1 : ¬ i < 0) (h2 : ¬ sz ≤ i) (hm : sz.toInt ≤ (m : Int)) : ¬ (i < 0 ∨ m ≤ i.toNatClampNeg) := by
  intro h
  rcases h with h | h
  · exact h1 h
  · have h3 := Int32.lt_iff_toInt_lt.mp (Int32.not_le.mp h2)
    have h4 : ¬ i.toInt < 0 := fun z => h1 (Int32.lt_iff_toInt_lt.mpr (by simpa using z))
    have h5 : i.toNatClampNeg = i.toInt.toNat := rfl
    rw [h5] at h
    omega
def f_hd (i sz : Int32) : Int32 := if i < 0 then 0 else if sz ≤ i then 0 else 1
theorem f_hd_ne {i sz : Int32} (h : ¬ f_hd i sz = 0) : ¬ i < 0 ∧ ¬ sz ≤ i := by
  unfold f_hd at h
  constructor
  · intro z; simp [z] at h
  · intro z; simp [z] at h
def f_read (f : Nat → Int32) (sz i : Int32) : Int32 := if i < 0 then 0 else if sz ≤ i then 0 else f i.toNatClampNeg
theorem f_read_0 {f : Nat → Int32} {sz i : Int32} (h : f_hd i sz = 0) : f_read f sz i = 0 := by
  unfold f_hd at h
  unfold f_read
  split at h
  · rw [if_pos (by assumption)]
  · rw [if_neg (by assumption)]
    split at h
    · rw [if_pos (by assumption)]
    · cases h
theorem f_read_1 {f : Nat → Int32} {sz i : Int32} (h : ¬ f_hd i sz = 0) : f_read f sz i = f i.toNatClampNeg := by
  obtain ⟨h1, h2⟩ := f_hd_ne h
  unfold f_read
  rw [if_neg h1, if_neg h2]
def f_hr (sz i n : Int32) : Int32 := if i < 0 then 0 else if sz < i then 0 else if n < 0 then 0 else if sz - i < n then 0 else 1
def f_rem (x y : Int32) : Int32 := x - x / y * y
theorem sX2_room {X : XX} {h : XH} {a c m : Nat} {sz : Int32} {f : Nat → Int32} (La : h[a]? = some (.inr (2, [.ref c, .int sz]))) (Lc : h[c]? = some (.inl (0, m, .inl f))) (lc : c < 1000)  : x_ev X xT 1 25 [.ref a] h (some (.int (Int32.ofNat m))) h := by
  refine q_ev (L := [some (.ref a)]) tX2_room (Nat.le_of_ble_eq_true rfl) rfl ?_
  refine q_aload_n rfl rfl ?_
  refine q_getfield rfl La rfl ?_
  refine q_alen rfl (lc) Lc (by decide) rfl ?_
  refine q_iret rfl rfl ?_
  exact ⟨rfl, rfl⟩
theorem sX2_size {X : XX} {h : XH} {a c : Nat} {sz : Int32} (La : h[a]? = some (.inr (2, [.ref c, .int sz])))  : x_ev X xT 1 26 [.ref a] h (some (.int sz)) h := by
  refine q_ev (L := [some (.ref a)]) tX2_size (Nat.le_of_ble_eq_true rfl) rfl ?_
  refine q_aload_n rfl rfl ?_
  refine q_getfield rfl La rfl ?_
  refine q_iret rfl rfl ?_
  exact ⟨rfl, rfl⟩
def f_neg (x : Int32) : Int32 := if 0 ≤ x then 0 else 1
theorem sX2_isMissing {X : XX} {h : XH} {a c : Nat} {sz : Int32} (La : h[a]? = some (.inr (2, [.ref c, .int sz])))  : x_ev X xT 1 27 [.ref a] h (some (.int (f_neg sz))) h := by
  refine q_ev (L := [some (.ref a)]) tX2_isMissing (Nat.le_of_ble_eq_true rfl) rfl ?_
  refine q_aload_n rfl rfl ?_
  refine q_getfield rfl La rfl ?_
  refine q_if_ge rfl (fun hc4 => ?_) (fun hc4 => ?_)
  · refine q_iconst (v := 0) rfl rfl ?_
    refine q_zret rfl rfl (by decide) ?_
    exact ⟨by simp [f_neg, *], rfl⟩
  · refine q_iconst (v := 1) rfl rfl ?_
    refine q_goto rfl ?_
    refine q_zret rfl rfl (by decide) ?_
    exact ⟨by simp [f_neg, *], rfl⟩
theorem sX2_remove {X : XX} {h : XH} {a c : Nat} {sz : Int32} (La : h[a]? = some (.inr (2, [.ref c, .int sz])))  : x_ev X xT 1 28 [.ref a] h none (h.set a (.inr (2, [.ref c, .int (-1)]))) := by
  refine q_ev (L := [some (.ref a)]) tX2_remove (Nat.le_of_ble_eq_true rfl) rfl ?_
  refine q_aload_n rfl rfl ?_
  refine q_iconst (v := (-1)) rfl rfl ?_
  refine q_putX rfl La rfl (Nat.le_of_ble_eq_true rfl) (rfl) (by decide +kernel) (fun h1 he1 La_1 ho1 => ?_)
  refine q_vret rfl rfl ?_
  exact ⟨rfl, he1⟩
theorem sX2_holds {X : XX} {h : XH} {a c : Nat} {sz : Int32} (La : h[a]? = some (.inr (2, [.ref c, .int sz]))) (i : Int32) : x_ev X xT 1 30 [.ref a, .int i] h (some (.int (f_hd i sz))) h := by
  refine q_ev (L := [some (.ref a), some (.int i)]) tX2_holds (Nat.le_of_ble_eq_true rfl) rfl ?_
  refine q_iload_n rfl rfl ?_
  refine q_if_lt rfl (fun hc1 => ?_) (fun hc1 => ?_)
  · refine q_iconst (v := 0) rfl rfl ?_
    refine q_zret rfl rfl (by decide) ?_
    exact ⟨by simp [f_hd, *], rfl⟩
  · refine q_iload_n rfl rfl ?_
    refine q_aload_n rfl rfl ?_
    refine q_getfield rfl La rfl ?_
    refine q_icmp_ge rfl (fun hc9 => ?_) (fun hc9 => ?_)
    · refine q_iconst (v := 0) rfl rfl ?_
      refine q_zret rfl rfl (by decide) ?_
      exact ⟨by simp [f_hd, *], rfl⟩
    · refine q_iconst (v := 1) rfl rfl ?_
      refine q_goto rfl ?_
      refine q_zret rfl rfl (by decide) ?_
      exact ⟨by simp [f_hd, *], rfl⟩
theorem sX2_holdsRun {X : XX} {h : XH} {a c : Nat} {sz : Int32} (La : h[a]? = some (.inr (2, [.ref c, .int sz]))) (i n : Int32) : x_ev X xT 1 31 [.ref a, .int i, .int n] h (some (.int (f_hr sz i n))) h := by
  refine q_ev (L := [some (.ref a), some (.int i), some (.int n)]) tX2_holdsRun (Nat.le_of_ble_eq_true rfl) rfl ?_
  refine q_iload_n rfl rfl ?_
  refine q_if_lt rfl (fun hc1 => ?_) (fun hc1 => ?_)
  · refine q_iconst (v := 0) rfl rfl ?_
    refine q_zret rfl rfl (by decide) ?_
    exact ⟨by simp [f_hr, *], rfl⟩
  · refine q_iload_n rfl rfl ?_
    refine q_aload_n rfl rfl ?_
    refine q_getfield rfl La rfl ?_
    refine q_icmp_gt rfl (fun hc9 => ?_) (fun hc9 => ?_)
    · refine q_iconst (v := 0) rfl rfl ?_
      refine q_zret rfl rfl (by decide) ?_
      exact ⟨by simp [f_hr, *], rfl⟩
    · refine q_iload_n rfl rfl ?_
      refine q_if_lt rfl (fun hc13 => ?_) (fun hc13 => ?_)
      · refine q_iconst (v := 0) rfl rfl ?_
        refine q_zret rfl rfl (by decide) ?_
        exact ⟨by simp [f_hr, *], rfl⟩
      · refine q_iload_n rfl rfl ?_
        refine q_aload_n rfl rfl ?_
        refine q_getfield rfl La rfl ?_
        refine q_iload_n rfl rfl ?_
        refine q_isub rfl ?_
        refine q_icmp_gt rfl (fun hc23 => ?_) (fun hc23 => ?_)
        · refine q_iconst (v := 0) rfl rfl ?_
          refine q_zret rfl rfl (by decide) ?_
          exact ⟨by simp [f_hr, *], rfl⟩
        · refine q_iconst (v := 1) rfl rfl ?_
          refine q_goto rfl ?_
          refine q_zret rfl rfl (by decide) ?_
          exact ⟨by simp [f_hr, *], rfl⟩
theorem sX2_read {X : XX} {h : XH} {a c m : Nat} {sz : Int32} {f : Nat → Int32} (La : h[a]? = some (.inr (2, [.ref c, .int sz]))) (Lc : h[c]? = some (.inl (0, m, .inl f))) (lc : c < 1000) (hm : sz.toInt ≤ (m : Int)) (i : Int32) : x_ev X xT 2 32 [.ref a, .int i] h (some (.int (f_read f sz i))) h := by
  refine q_ev (L := [some (.ref a), some (.int i)]) tX2_read (Nat.le_of_ble_eq_true rfl) rfl ?_
  refine q_aload_n rfl rfl ?_
  refine q_iload_n rfl rfl ?_
  refine q_callV1 rfl La (Nat.le_of_ble_eq_true rfl) (Nat.le_of_ble_eq_true rfl) (sX2_holds La i) ?_
  refine q_if_eq rfl (fun hc5 => ?_) (fun hc5 => ?_)
  · refine q_iconst (v := 0) rfl rfl ?_
    refine q_iret rfl rfl ?_
    exact ⟨by first | rw [f_read_0 hc5] | rw [f_read_1 hc5], rfl⟩
  · refine q_aload_n rfl rfl ?_
    refine q_getfield rfl La rfl ?_
    refine q_iload_n rfl rfl ?_
    refine q_iaload rfl (lc) Lc (x_ix (f_hd_ne hc5).1 (f_hd_ne hc5).2 hm) ?_
    refine q_goto rfl ?_
    refine q_iret rfl rfl ?_
    exact ⟨by first | rw [f_read_0 hc5] | rw [f_read_1 hc5], rfl⟩
def f_wr (f : Nat → Int32) (sz i v : Int32) : Nat → Int32 := if i < 0 then f else if sz ≤ i then f else upd f i.toNatClampNeg v
theorem f_wr_0 {f : Nat → Int32} {sz i v : Int32} (h : f_hd i sz = 0) : f_wr f sz i v = f := by
  unfold f_hd at h
  unfold f_wr
  split at h
  · rw [if_pos (by assumption)]
  · rw [if_neg (by assumption)]
    split at h
    · rw [if_pos (by assumption)]
    · cases h
theorem f_wr_1 {f : Nat → Int32} {sz i v : Int32} (h : ¬ f_hd i sz = 0) : f_wr f sz i v = upd f i.toNatClampNeg v := by
  obtain ⟨h1, h2⟩ := f_hd_ne h
  unfold f_wr
  rw [if_neg h1, if_neg h2]
theorem x_set_same {h : XH} {c : Nat} {e : va_E} (hc : h[c]? = some e) : h.set c e = h := by
  apply List.ext_getElem?
  intro k
  rw [List.getElem?_set]
  split
  · rename_i e1
    subst e1
    rw [if_pos (List.getElem?_eq_some_iff.mp hc).1, hc]
  · rfl
theorem sX2_write {X : XX} {h : XH} {a c m : Nat} {sz : Int32} {f : Nat → Int32} (La : h[a]? = some (.inr (2, [.ref c, .int sz]))) (Lc : h[c]? = some (.inl (0, m, .inl f))) (lc : c < 1000) (hm : sz.toInt ≤ (m : Int)) (i v : Int32) : x_ev X xT 2 33 [.ref a, .int i, .int v] h none (h.set c (.inl (0, m, .inl (f_wr f sz i v)))) := by
  refine q_ev (L := [some (.ref a), some (.int i), some (.int v)]) tX2_write (Nat.le_of_ble_eq_true rfl) rfl ?_
  refine q_aload_n rfl rfl ?_
  refine q_iload_n rfl rfl ?_
  refine q_callV1 rfl La (Nat.le_of_ble_eq_true rfl) (Nat.le_of_ble_eq_true rfl) (sX2_holds La i) ?_
  refine q_if_eq rfl (fun hc5 => ?_) (fun hc5 => ?_)
  · refine q_vret rfl rfl ?_
    first | (exact ⟨rfl, by rw [f_wr_0 hc5, x_set_same Lc]⟩) | (exact ⟨rfl, by rw [f_wr_1 hc5, he1]⟩)
  · refine q_aload_n rfl rfl ?_
    refine q_getfield rfl La rfl ?_
    refine q_iload_n rfl rfl ?_
    refine q_iload_n rfl rfl ?_
    refine q_iastX rfl Lc (x_ix (f_hd_ne hc5).1 (f_hd_ne hc5).2 hm) (fun h1 he1 Lc_1 ho1 => ?_)
    have La_1 := ho1 _ _ (x_ne2 La Lc) La
    refine q_vret rfl rfl ?_
    first | (exact ⟨rfl, by rw [f_wr_0 hc5, x_set_same Lc]⟩) | (exact ⟨rfl, by rw [f_wr_1 hc5, he1]⟩)
theorem sX1_kind {X : XX} {h : XH} {a : Nat} {kind start speed bright : Int32} (Ka : h[a]? = some (.inr (1, [.int kind, .int start, .int speed, .int bright])))  : x_ev X xT 1 14 [.ref a] h (some (.int kind)) h := by
  refine q_ev (L := [some (.ref a)]) tX1_kind (Nat.le_of_ble_eq_true rfl) rfl ?_
  refine q_aload_n rfl rfl ?_
  refine q_getfield rfl Ka rfl ?_
  refine q_iret rfl rfl ?_
  exact ⟨rfl, rfl⟩
theorem sX1_speed {X : XX} {h : XH} {a : Nat} {kind start speed bright : Int32} (Ka : h[a]? = some (.inr (1, [.int kind, .int start, .int speed, .int bright])))  : x_ev X xT 1 15 [.ref a] h (some (.int speed)) h := by
  refine q_ev (L := [some (.ref a)]) tX1_speed (Nat.le_of_ble_eq_true rfl) rfl ?_
  refine q_aload_n rfl rfl ?_
  refine q_getfield rfl Ka rfl ?_
  refine q_iret rfl rfl ?_
  exact ⟨rfl, rfl⟩
theorem sX1_toldBright {X : XX} {h : XH} {a : Nat} {kind start speed bright : Int32} (Ka : h[a]? = some (.inr (1, [.int kind, .int start, .int speed, .int bright])))  : x_ev X xT 1 16 [.ref a] h (some (.int bright)) h := by
  refine q_ev (L := [some (.ref a)]) tX1_toldBright (Nat.le_of_ble_eq_true rfl) rfl ?_
  refine q_aload_n rfl rfl ?_
  refine q_getfield rfl Ka rfl ?_
  refine q_iret rfl rfl ?_
  exact ⟨rfl, rfl⟩
theorem sX1_become {X : XX} {h : XH} {a : Nat} {kind start speed bright : Int32} (Ka : h[a]? = some (.inr (1, [.int kind, .int start, .int speed, .int bright]))) (k s p b : Int32) : x_ev X xT 1 12 [.ref a, .int k, .int s, .int p, .int b] h none (h.set a (.inr (1, [.int k, .int s, .int p, .int b]))) := by
  refine q_ev (L := [some (.ref a), some (.int k), some (.int s), some (.int p), some (.int b)]) tX1_become (Nat.le_of_ble_eq_true rfl) rfl ?_
  refine q_aload_n rfl rfl ?_
  refine q_iload_n rfl rfl ?_
  refine q_putX rfl Ka rfl (Nat.le_of_ble_eq_true rfl) (rfl) (by decide +kernel) (fun h1 he1 Ka_1 ho1 => ?_)
  refine q_aload_n rfl rfl ?_
  refine q_iload_n rfl rfl ?_
  refine q_putX rfl Ka_1 rfl (Nat.le_of_ble_eq_true rfl) (rfl) (by decide +kernel) (fun h2 he2 Ka_2 ho2 => ?_)
  refine q_aload_n rfl rfl ?_
  refine q_iload_n rfl rfl ?_
  refine q_putX rfl Ka_2 rfl (Nat.le_of_ble_eq_true rfl) (rfl) (by decide +kernel) (fun h3 he3 Ka_3 ho3 => ?_)
  refine q_aload_n rfl rfl ?_
  refine q_iload rfl rfl ?_
  refine q_putX rfl Ka_3 rfl (Nat.le_of_ble_eq_true rfl) (rfl) (by decide +kernel) (fun h4 he4 Ka_4 ho4 => ?_)
  refine q_vret rfl rfl ?_
  exact ⟨rfl, by rw [he4, he3, he2, he1]; simp [List.set_set]⟩
def f_of (kind other : Int32) : Int32 := if kind = other then 1 else if kind = 4 ∧ other = 1 then 1 else if kind = 5 ∧ other = 3 then 1 else 0
theorem sX1_isOf {X : XX} {h : XH} {a : Nat} {kind start speed bright : Int32} (Ka : h[a]? = some (.inr (1, [.int kind, .int start, .int speed, .int bright]))) (w : Int32) : x_ev X xT 1 17 [.ref a, .int w] h (some (.int (f_of kind w))) h := by
  refine q_ev (L := [some (.ref a), some (.int w)]) tX1_isOf (Nat.le_of_ble_eq_true rfl) rfl ?_
  refine q_aload_n rfl rfl ?_
  refine q_getfield rfl Ka rfl ?_
  refine q_iload_n rfl rfl ?_
  refine q_icmp_eq rfl (fun hc5 => ?_) (fun hc5 => ?_)
  · refine q_iconst (v := 1) rfl rfl ?_
    refine q_goto rfl ?_
    refine q_zret rfl rfl (by decide) ?_
    exact ⟨by simp_all [f_of], rfl⟩
  · refine q_aload_n rfl rfl ?_
    refine q_getfield rfl Ka rfl ?_
    refine q_iconst (v := 4) rfl rfl ?_
    refine q_icmp_ne rfl (fun hc13 => ?_) (fun hc13 => ?_)
    · refine q_aload_n rfl rfl ?_
      refine q_getfield rfl Ka rfl ?_
      refine q_iconst (v := 5) rfl rfl ?_
      refine q_icmp_ne rfl (fun hc26 => ?_) (fun hc26 => ?_)
      · refine q_iconst (v := 0) rfl rfl ?_
        refine q_zret rfl rfl (by decide) ?_
        exact ⟨by simp_all [f_of], rfl⟩
      · refine q_iload_n rfl rfl ?_
        refine q_iconst (v := 3) rfl rfl ?_
        refine q_icmp_ne rfl (fun hc31 => ?_) (fun hc31 => ?_)
        · refine q_iconst (v := 0) rfl rfl ?_
          refine q_zret rfl rfl (by decide) ?_
          exact ⟨by simp_all [f_of], rfl⟩
        · refine q_iconst (v := 1) rfl rfl ?_
          refine q_goto rfl ?_
          refine q_zret rfl rfl (by decide) ?_
          exact ⟨by simp_all [f_of], rfl⟩
    · refine q_iload_n rfl rfl ?_
      refine q_iconst (v := 1) rfl rfl ?_
      refine q_icmp_eq rfl (fun hc18 => ?_) (fun hc18 => ?_)
      · refine q_iconst (v := 1) rfl rfl ?_
        refine q_goto rfl ?_
        refine q_zret rfl rfl (by decide) ?_
        exact ⟨by simp_all [f_of], rfl⟩
      · refine q_aload_n rfl rfl ?_
        refine q_getfield rfl Ka rfl ?_
        refine q_iconst (v := 5) rfl rfl ?_
        refine q_icmp_ne rfl (fun hc26 => ?_) (fun hc26 => ?_)
        · refine q_iconst (v := 0) rfl rfl ?_
          refine q_zret rfl rfl (by decide) ?_
          exact ⟨by simp_all [f_of], rfl⟩
        · refine q_iload_n rfl rfl ?_
          refine q_iconst (v := 3) rfl rfl ?_
          refine q_icmp_ne rfl (fun hc31 => ?_) (fun hc31 => ?_)
          · refine q_iconst (v := 0) rfl rfl ?_
            refine q_zret rfl rfl (by decide) ?_
            exact ⟨by simp_all [f_of], rfl⟩
          · refine q_iconst (v := 1) rfl rfl ?_
            refine q_goto rfl ?_
            refine q_zret rfl rfl (by decide) ?_
            exact ⟨by simp_all [f_of], rfl⟩
def f_kd (k : Int32) : Prop := k = 0 ∨ k = 1 ∨ k = 2 ∨ k = 3 ∨ k = 4 ∨ k = 5
def f_mv (kind speed m : Int32) : Int32 := if kind = 1 then speed * ((m + 1) / 2) else if kind = 2 then 2 * speed * m else if kind = 4 then 0 else speed * m
theorem sX1_movedBy {X : XX} {h : XH} {a : Nat} {kind start speed bright : Int32} (Ka : h[a]? = some (.inr (1, [.int kind, .int start, .int speed, .int bright]))) (hk : f_kd kind) (m : Int32) : x_ev X xT 1 18 [.ref a, .int m] h (some (.int (f_mv kind speed m))) h := by
  refine q_ev (L := [some (.ref a), some (.int m)]) tX1_movedBy (Nat.le_of_ble_eq_true rfl) rfl ?_
  refine q_aload_n rfl rfl ?_
  refine q_getfield rfl Ka rfl ?_
  rcases hk with rfl | rfl | rfl | rfl | rfl | rfl
  · refine q_tsw (t := 58) rfl (by decide) ?_
    refine q_aload_n rfl rfl ?_
    refine q_getfield rfl Ka rfl ?_
    refine q_iload_n rfl rfl ?_
    refine q_imul rfl ?_
    refine q_iret rfl rfl ?_
    exact ⟨by rfl, rfl⟩
  · refine q_tsw (t := 36) rfl (by decide) ?_
    refine q_aload_n rfl rfl ?_
    refine q_getfield rfl Ka rfl ?_
    refine q_iload_n rfl rfl ?_
    refine q_iconst (v := 1) rfl rfl ?_
    refine q_iadd rfl ?_
    refine q_iconst (v := 2) rfl rfl ?_
    refine q_idiv rfl (by decide) ?_
    refine q_imul rfl ?_
    refine q_iret rfl rfl ?_
    exact ⟨by rfl, rfl⟩
  · refine q_tsw (t := 47) rfl (by decide) ?_
    refine q_iconst (v := 2) rfl rfl ?_
    refine q_aload_n rfl rfl ?_
    refine q_getfield rfl Ka rfl ?_
    refine q_imul rfl ?_
    refine q_iload_n rfl rfl ?_
    refine q_imul rfl ?_
    refine q_iret rfl rfl ?_
    exact ⟨by rfl, rfl⟩
  · refine q_tsw (t := 58) rfl (by decide) ?_
    refine q_aload_n rfl rfl ?_
    refine q_getfield rfl Ka rfl ?_
    refine q_iload_n rfl rfl ?_
    refine q_imul rfl ?_
    refine q_iret rfl rfl ?_
    exact ⟨by rfl, rfl⟩
  · refine q_tsw (t := 56) rfl (by decide) ?_
    refine q_iconst (v := 0) rfl rfl ?_
    refine q_iret rfl rfl ?_
    exact ⟨by rfl, rfl⟩
  · refine q_tsw (t := 58) rfl (by decide) ?_
    refine q_aload_n rfl rfl ?_
    refine q_getfield rfl Ka rfl ?_
    refine q_iload_n rfl rfl ?_
    refine q_imul rfl ?_
    refine q_iret rfl rfl ?_
    exact ⟨by rfl, rfl⟩
def f_pl (kind start speed m : Int32) : Int32 := f_rd (start + f_mv kind speed m)
theorem sX1_placeAt {X : XX} {h : XH} {a : Nat} {kind start speed bright : Int32} (Ka : h[a]? = some (.inr (1, [.int kind, .int start, .int speed, .int bright]))) (hk : f_kd kind) (m : Int32) : x_ev X xT 3 19 [.ref a, .int m] h (some (.int (f_pl kind start speed m))) h := by
  refine q_ev (L := [some (.ref a), some (.int m)]) tX1_placeAt (Nat.le_of_ble_eq_true rfl) rfl ?_
  refine q_aload_n rfl rfl ?_
  refine q_getfield rfl Ka rfl ?_
  refine q_aload_n rfl rfl ?_
  refine q_iload_n rfl rfl ?_
  refine q_callV1 rfl Ka (Nat.le_of_ble_eq_true rfl) (Nat.le_of_ble_eq_true rfl) (sX1_movedBy Ka hk m) ?_
  refine q_iadd rfl ?_
  refine q_callS1 rfl rfl (Nat.le_of_ble_eq_true rfl) (Nat.le_of_ble_eq_true rfl) (sX8_round _) ?_
  refine q_iret rfl rfl ?_
  exact ⟨rfl, rfl⟩
theorem sX1_standAt {X : XX} {h : XH} {a : Nat} {kind start speed bright : Int32} (Ka : h[a]? = some (.inr (1, [.int kind, .int start, .int speed, .int bright]))) (hk : f_kd kind) (p m : Int32) : x_ev X xT 3 13 [.ref a, .int p, .int m] h none (h.set a (.inr (1, [.int kind, .int (f_rd (p - f_mv kind speed m)), .int speed, .int bright]))) := by
  refine q_ev (L := [some (.ref a), some (.int p), some (.int m)]) tX1_standAt (Nat.le_of_ble_eq_true rfl) rfl ?_
  refine q_aload_n rfl rfl ?_
  refine q_iload_n rfl rfl ?_
  refine q_aload_n rfl rfl ?_
  refine q_iload_n rfl rfl ?_
  refine q_callV1 rfl Ka (Nat.le_of_ble_eq_true rfl) (Nat.le_of_ble_eq_true rfl) (sX1_movedBy Ka hk m) ?_
  refine q_isub rfl ?_
  refine q_callS1 rfl rfl (Nat.le_of_ble_eq_true rfl) (Nat.le_of_ble_eq_true rfl) (sX8_round _) ?_
  refine q_putX rfl Ka rfl (Nat.le_of_ble_eq_true rfl) (rfl) (by decide +kernel) (fun h1 he1 Ka_1 ho1 => ?_)
  refine q_vret rfl rfl ?_
  exact ⟨rfl, he1⟩
def f_br (kind bright m : Int32) : Int32 := if kind = 5 ∧ f_rem m 4 = 0 then (if ¬ f_of kind 3 = 0 ∧ ¬ f_rem m 2 = 0 then bright / 2 else bright) + 3 else (if ¬ f_of kind 3 = 0 ∧ ¬ f_rem m 2 = 0 then bright / 2 else bright)
theorem sX1_brightAt {X : XX} {h : XH} {a : Nat} {kind start speed bright : Int32} (Ka : h[a]? = some (.inr (1, [.int kind, .int start, .int speed, .int bright]))) (m : Int32) : x_ev X xT 2 20 [.ref a, .int m] h (some (.int (f_br kind bright m))) h := by
  refine q_ev (L := [some (.ref a), some (.int m), none]) tX1_brightAt (Nat.le_of_ble_eq_true rfl) rfl ?_
  refine q_aload_n rfl rfl ?_
  refine q_iconst (v := 3) rfl rfl ?_
  refine q_callV1 rfl Ka (Nat.le_of_ble_eq_true rfl) (Nat.le_of_ble_eq_true rfl) (sX1_isOf Ka 3) ?_
  refine q_if_eq rfl (fun hc5 => ?_) (fun hc5 => ?_)
  · refine q_aload_n rfl rfl ?_
    refine q_getfield rfl Ka rfl ?_
    refine q_istore_n (L' := [_, _, _]) rfl rfl ?_
    refine q_aload_n rfl rfl ?_
    refine q_getfield rfl Ka rfl ?_
    refine q_iconst (v := 5) rfl rfl ?_
    refine q_icmp_ne rfl (fun hc33 => ?_) (fun hc33 => ?_)
    · refine q_iload_n rfl rfl ?_
      refine q_iret rfl rfl ?_
      exact ⟨by simp_all [f_br, f_rem], rfl⟩
    · refine q_iload_n rfl rfl ?_
      refine q_iconst (v := 4) rfl rfl ?_
      refine q_irem rfl (by decide) ?_
      refine q_if_ne rfl (fun hc39 => ?_) (fun hc39 => ?_)
      · refine q_iload_n rfl rfl ?_
        refine q_iret rfl rfl ?_
        exact ⟨by simp_all [f_br, f_rem], rfl⟩
      · refine q_iload_n rfl rfl ?_
        refine q_iconst (v := 3) rfl rfl ?_
        refine q_iadd rfl ?_
        refine q_goto rfl ?_
        refine q_iret rfl rfl ?_
        exact ⟨by simp_all [f_br, f_rem], rfl⟩
  · refine q_iload_n rfl rfl ?_
    refine q_iconst (v := 2) rfl rfl ?_
    refine q_irem rfl (by decide) ?_
    refine q_if_eq rfl (fun hc11 => ?_) (fun hc11 => ?_)
    · refine q_aload_n rfl rfl ?_
      refine q_getfield rfl Ka rfl ?_
      refine q_istore_n (L' := [_, _, _]) rfl rfl ?_
      refine q_aload_n rfl rfl ?_
      refine q_getfield rfl Ka rfl ?_
      refine q_iconst (v := 5) rfl rfl ?_
      refine q_icmp_ne rfl (fun hc33 => ?_) (fun hc33 => ?_)
      · refine q_iload_n rfl rfl ?_
        refine q_iret rfl rfl ?_
        exact ⟨by simp_all [f_br, f_rem], rfl⟩
      · refine q_iload_n rfl rfl ?_
        refine q_iconst (v := 4) rfl rfl ?_
        refine q_irem rfl (by decide) ?_
        refine q_if_ne rfl (fun hc39 => ?_) (fun hc39 => ?_)
        · refine q_iload_n rfl rfl ?_
          refine q_iret rfl rfl ?_
          exact ⟨by simp_all [f_br, f_rem], rfl⟩
        · refine q_iload_n rfl rfl ?_
          refine q_iconst (v := 3) rfl rfl ?_
          refine q_iadd rfl ?_
          refine q_goto rfl ?_
          refine q_iret rfl rfl ?_
          exact ⟨by simp_all [f_br, f_rem], rfl⟩
    · refine q_aload_n rfl rfl ?_
      refine q_getfield rfl Ka rfl ?_
      refine q_iconst (v := 2) rfl rfl ?_
      refine q_idiv rfl (by decide) ?_
      refine q_goto rfl ?_
      refine q_istore_n (L' := [_, _, _]) rfl rfl ?_
      refine q_aload_n rfl rfl ?_
      refine q_getfield rfl Ka rfl ?_
      refine q_iconst (v := 5) rfl rfl ?_
      refine q_icmp_ne rfl (fun hc33 => ?_) (fun hc33 => ?_)
      · refine q_iload_n rfl rfl ?_
        refine q_iret rfl rfl ?_
        exact ⟨by simp_all [f_br, f_rem], rfl⟩
      · refine q_iload_n rfl rfl ?_
        refine q_iconst (v := 4) rfl rfl ?_
        refine q_irem rfl (by decide) ?_
        refine q_if_ne rfl (fun hc39 => ?_) (fun hc39 => ?_)
        · refine q_iload_n rfl rfl ?_
          refine q_iret rfl rfl ?_
          exact ⟨by simp_all [f_br, f_rem], rfl⟩
        · refine q_iload_n rfl rfl ?_
          refine q_iconst (v := 3) rfl rfl ?_
          refine q_iadd rfl ?_
          refine q_goto rfl ?_
          refine q_iret rfl rfl ?_
          exact ⟨by simp_all [f_br, f_rem], rfl⟩
theorem sX6_become {X : XX} {h : XH} {b : Nat} {broad sticks : Int32} (Sb : h[b]? = some (.inr (6, [.int broad, .int sticks]))) (x y : Int32) : x_ev X xT 1 70 [.ref b, .int x, .int y] h none (h.set b (.inr (6, [.int x, .int y]))) := by
  refine q_ev (L := [some (.ref b), some (.int x), some (.int y)]) tX6_become (Nat.le_of_ble_eq_true rfl) rfl ?_
  refine q_aload_n rfl rfl ?_
  refine q_iload_n rfl rfl ?_
  refine q_putX rfl Sb rfl (Nat.le_of_ble_eq_true rfl) (rfl) (by decide +kernel) (fun h1 he1 Sb_1 ho1 => ?_)
  refine q_aload_n rfl rfl ?_
  refine q_iload_n rfl rfl ?_
  refine q_putX rfl Sb_1 rfl (Nat.le_of_ble_eq_true rfl) (rfl) (by decide +kernel) (fun h2 he2 Sb_2 ho2 => ?_)
  refine q_vret rfl rfl ?_
  exact ⟨rfl, by rw [he2, he1]; simp [List.set_set]⟩
theorem sX6_broad {X : XX} {h : XH} {b : Nat} {broad sticks : Int32} (Sb : h[b]? = some (.inr (6, [.int broad, .int sticks])))  : x_ev X xT 1 71 [.ref b] h (some (.int broad)) h := by
  refine q_ev (L := [some (.ref b)]) tX6_broad (Nat.le_of_ble_eq_true rfl) rfl ?_
  refine q_aload_n rfl rfl ?_
  refine q_getfield rfl Sb rfl ?_
  refine q_iret rfl rfl ?_
  exact ⟨rfl, rfl⟩
def f_tm (broad first place : Int32) : Int32 := if f_rd (place - first) < broad then (if f_rd (place - first) = 0 then 1 else if f_rd (place - first) = broad - 1 then 1 else 2) else 0
theorem sX6_times {X : XX} {h : XH} {b : Nat} {broad sticks : Int32} (Sb : h[b]? = some (.inr (6, [.int broad, .int sticks]))) (fi pl : Int32) : x_ev X xT 3 72 [.ref b, .int fi, .int pl] h (some (.int (f_tm broad fi pl))) h := by
  refine q_ev (L := [some (.ref b), some (.int fi), some (.int pl), none]) tX6_times (Nat.le_of_ble_eq_true rfl) rfl ?_
  refine q_iload_n rfl rfl ?_
  refine q_iload_n rfl rfl ?_
  refine q_isub rfl ?_
  refine q_callS1 rfl rfl (Nat.le_of_ble_eq_true rfl) (Nat.le_of_ble_eq_true rfl) (sX8_round _) ?_
  refine q_istore_n (L' := [_, _, _, _]) rfl rfl ?_
  refine q_iload_n rfl rfl ?_
  refine q_aload_n rfl rfl ?_
  refine q_getfield rfl Sb rfl ?_
  refine q_icmp_lt rfl (fun hc12 => ?_) (fun hc12 => ?_)
  · refine q_iload_n rfl rfl ?_
    refine q_if_eq rfl (fun hc18 => ?_) (fun hc18 => ?_)
    · refine q_iconst (v := 1) rfl rfl ?_
      refine q_goto rfl ?_
      refine q_iret rfl rfl ?_
      exact ⟨by first | (simp_all [f_tm]; done) | (simp [f_tm, *]; done), rfl⟩
    · refine q_iload_n rfl rfl ?_
      refine q_aload_n rfl rfl ?_
      refine q_getfield rfl Sb rfl ?_
      refine q_iconst (v := 1) rfl rfl ?_
      refine q_isub rfl ?_
      refine q_icmp_ne rfl (fun hc28 => ?_) (fun hc28 => ?_)
      · refine q_iconst (v := 2) rfl rfl ?_
        refine q_iret rfl rfl ?_
        exact ⟨by first | (simp_all [f_tm]; done) | (simp [f_tm, *]; done), rfl⟩
      · refine q_iconst (v := 1) rfl rfl ?_
        refine q_goto rfl ?_
        refine q_iret rfl rfl ?_
        exact ⟨by first | (simp_all [f_tm]; done) | (simp [f_tm, *]; done), rfl⟩
  · refine q_iconst (v := 0) rfl rfl ?_
    refine q_iret rfl rfl ?_
    exact ⟨by first | (simp_all [f_tm]; done) | (simp [f_tm, *]; done), rfl⟩
theorem sX6_gain {X : XX} {h : XH} {b : Nat} {broad sticks : Int32} (Sb : h[b]? = some (.inr (6, [.int broad, .int sticks]))) {a : Nat} {kind start speed bright : Int32} (Ka : h[a]? = some (.inr (1, [.int kind, .int start, .int speed, .int bright]))) (hk : f_kd kind) (fi m : Int32) : x_ev X xT 4 73 [.ref b, .int fi, .ref a, .int m] h (some (.int (f_tm broad fi (f_pl kind start speed m) * f_br kind bright m))) h := by
  refine q_ev (L := [some (.ref b), some (.int fi), some (.ref a), some (.int m)]) tX6_gain (Nat.le_of_ble_eq_true rfl) rfl ?_
  refine q_aload_n rfl rfl ?_
  refine q_iload_n rfl rfl ?_
  refine q_aload_n rfl rfl ?_
  refine q_iload_n rfl rfl ?_
  refine q_callV1 rfl Ka (Nat.le_of_ble_eq_true rfl) (Nat.le_of_ble_eq_true rfl) (sX1_placeAt Ka hk m) ?_
  refine q_callV2 rfl Sb (Nat.le_of_ble_eq_true rfl) (Nat.le_of_ble_eq_true rfl) (sX6_times Sb fi _) ?_
  refine q_aload_n rfl rfl ?_
  refine q_iload_n rfl rfl ?_
  refine q_callV1 rfl Ka (Nat.le_of_ble_eq_true rfl) (Nat.le_of_ble_eq_true rfl) (sX1_brightAt Ka m) ?_
  refine q_imul rfl ?_
  refine q_iret rfl rfl ?_
  exact ⟨rfl, rfl⟩
def f_ef (sticks first bv : Int32) : Int32 := if f_rd (if 0 ≤ bv then sticks - first else first - sticks) ≤ 0 then f_abs bv else if f_abs bv < f_rd (if 0 ≤ bv then sticks - first else first - sticks) then f_abs bv else f_abs bv + 4
theorem sX6_effortOf {X : XX} {h : XH} {b : Nat} {broad sticks : Int32} (Sb : h[b]? = some (.inr (6, [.int broad, .int sticks]))) (fi bv : Int32) : x_ev X xT 3 74 [.ref b, .int fi, .int bv] h (some (.int (f_ef sticks fi bv))) h := by
  refine q_ev (L := [some (.ref b), some (.int fi), some (.int bv), none, none, none]) tX6_effortOf (Nat.le_of_ble_eq_true rfl) rfl ?_
  refine q_iload_n rfl rfl ?_
  refine q_callS1 rfl rfl (Nat.le_of_ble_eq_true rfl) (Nat.le_of_ble_eq_true rfl) (sJ9_abs_0f7a4 _) ?_
  refine q_istore_n (L' := [_, _, _, _, _, _]) rfl rfl ?_
  refine q_iload_n rfl rfl ?_
  refine q_if_ge rfl (fun hc6 => ?_) (fun hc6 => ?_)
  · refine q_aload_n rfl rfl ?_
    refine q_getfield rfl Sb rfl ?_
    refine q_iload_n rfl rfl ?_
    refine q_isub rfl ?_
    refine q_callS1 rfl rfl (Nat.le_of_ble_eq_true rfl) (Nat.le_of_ble_eq_true rfl) (sX8_round _) ?_
    refine q_istore (L' := [_, _, _, _, _, _]) rfl rfl ?_
    refine q_iload rfl rfl ?_
    refine q_if_le rfl (fun hc31 => ?_) (fun hc31 => ?_)
    · refine q_iconst (v := 0) rfl rfl ?_
      refine q_istore (L' := [_, _, _, _, _, _]) rfl rfl ?_
      refine q_iload rfl rfl ?_
      refine q_if_eq rfl (fun hc49 => ?_) (fun hc49 => ?_)
      · refine q_iload_n rfl rfl ?_
        refine q_iret rfl rfl ?_
        exact ⟨by simp [f_ef, *], rfl⟩
      · exact absurd hc49 (by decide)
    · refine q_iload rfl rfl ?_
      refine q_iload_n rfl rfl ?_
      refine q_icmp_gt rfl (fun hc37 => ?_) (fun hc37 => ?_)
      · refine q_iconst (v := 0) rfl rfl ?_
        refine q_istore (L' := [_, _, _, _, _, _]) rfl rfl ?_
        refine q_iload rfl rfl ?_
        refine q_if_eq rfl (fun hc49 => ?_) (fun hc49 => ?_)
        · refine q_iload_n rfl rfl ?_
          refine q_iret rfl rfl ?_
          exact ⟨by simp [f_ef, *], rfl⟩
        · exact absurd hc49 (by decide)
      · refine q_iconst (v := 1) rfl rfl ?_
        refine q_goto rfl ?_
        refine q_istore (L' := [_, _, _, _, _, _]) rfl rfl ?_
        refine q_iload rfl rfl ?_
        refine q_if_eq rfl (fun hc49 => ?_) (fun hc49 => ?_)
        · exact absurd hc49 (by decide)
        · refine q_iload_n rfl rfl ?_
          refine q_iconst (v := 4) rfl rfl ?_
          refine q_iadd rfl ?_
          refine q_goto rfl ?_
          refine q_iret rfl rfl ?_
          exact ⟨by simp [f_ef, *], rfl⟩
  · refine q_iload_n rfl rfl ?_
    refine q_aload_n rfl rfl ?_
    refine q_getfield rfl Sb rfl ?_
    refine q_isub rfl ?_
    refine q_goto rfl ?_
    refine q_callS1 rfl rfl (Nat.le_of_ble_eq_true rfl) (Nat.le_of_ble_eq_true rfl) (sX8_round _) ?_
    refine q_istore (L' := [_, _, _, _, _, _]) rfl rfl ?_
    refine q_iload rfl rfl ?_
    refine q_if_le rfl (fun hc31 => ?_) (fun hc31 => ?_)
    · refine q_iconst (v := 0) rfl rfl ?_
      refine q_istore (L' := [_, _, _, _, _, _]) rfl rfl ?_
      refine q_iload rfl rfl ?_
      refine q_if_eq rfl (fun hc49 => ?_) (fun hc49 => ?_)
      · refine q_iload_n rfl rfl ?_
        refine q_iret rfl rfl ?_
        exact ⟨by simp [f_ef, *], rfl⟩
      · exact absurd hc49 (by decide)
    · refine q_iload rfl rfl ?_
      refine q_iload_n rfl rfl ?_
      refine q_icmp_gt rfl (fun hc37 => ?_) (fun hc37 => ?_)
      · refine q_iconst (v := 0) rfl rfl ?_
        refine q_istore (L' := [_, _, _, _, _, _]) rfl rfl ?_
        refine q_iload rfl rfl ?_
        refine q_if_eq rfl (fun hc49 => ?_) (fun hc49 => ?_)
        · refine q_iload_n rfl rfl ?_
          refine q_iret rfl rfl ?_
          exact ⟨by simp [f_ef, *], rfl⟩
        · exact absurd hc49 (by decide)
      · refine q_iconst (v := 1) rfl rfl ?_
        refine q_goto rfl ?_
        refine q_istore (L' := [_, _, _, _, _, _]) rfl rfl ?_
        refine q_iload rfl rfl ?_
        refine q_if_eq rfl (fun hc49 => ?_) (fun hc49 => ?_)
        · exact absurd hc49 (by decide)
        · refine q_iload_n rfl rfl ?_
          refine q_iconst (v := 4) rfl rfl ?_
          refine q_iadd rfl ?_
          refine q_goto rfl ?_
          refine q_iret rfl rfl ?_
          exact ⟨by simp [f_ef, *], rfl⟩
end
section
/-! specs: Night (no loops), View.gain -/
theorem sX3_begin {X : XX} {h : XH} {n dd : Nat} {done moment first spent : Int32} (Na : h[n]? = some (.inr (3, [.ref dd, .int done, .int moment, .int first, .int spent])))  : x_ev X xT 1 40 [.ref n] h none (h.set n (.inr (3, [.ref dd, .int 0, .int 0, .int 0, .int 0]))) := by
  refine q_ev (L := [some (.ref n)]) tX3_begin (Nat.le_of_ble_eq_true rfl) rfl ?_
  refine q_aload_n rfl rfl ?_
  refine q_iconst (v := 0) rfl rfl ?_
  refine q_putX rfl Na rfl (Nat.le_of_ble_eq_true rfl) (rfl) (by decide +kernel) (fun h1 he1 Na_1 ho1 => ?_)
  refine q_aload_n rfl rfl ?_
  refine q_iconst (v := 0) rfl rfl ?_
  refine q_putX rfl Na_1 rfl (Nat.le_of_ble_eq_true rfl) (rfl) (by decide +kernel) (fun h2 he2 Na_2 ho2 => ?_)
  refine q_aload_n rfl rfl ?_
  refine q_iconst (v := 0) rfl rfl ?_
  refine q_putX rfl Na_2 rfl (Nat.le_of_ble_eq_true rfl) (rfl) (by decide +kernel) (fun h3 he3 Na_3 ho3 => ?_)
  refine q_aload_n rfl rfl ?_
  refine q_iconst (v := 0) rfl rfl ?_
  refine q_putX rfl Na_3 rfl (Nat.le_of_ble_eq_true rfl) (rfl) (by decide +kernel) (fun h4 he4 Na_4 ho4 => ?_)
  refine q_vret rfl rfl ?_
  exact ⟨rfl, by rw [he4, he3, he2, he1]; simp [List.set_set]⟩
theorem sX3_forget {X : XX} {h : XH} {n dd : Nat} {done moment first spent : Int32} (Na : h[n]? = some (.inr (3, [.ref dd, .int done, .int moment, .int first, .int spent])))  : x_ev X xT 1 41 [.ref n] h none (h.set n (.inr (3, [.ref dd, .int (-1), .int moment, .int first, .int spent]))) := by
  refine q_ev (L := [some (.ref n)]) tX3_forget (Nat.le_of_ble_eq_true rfl) rfl ?_
  refine q_aload_n rfl rfl ?_
  refine q_iconst (v := (-1)) rfl rfl ?_
  refine q_putX rfl Na rfl (Nat.le_of_ble_eq_true rfl) (rfl) (by decide +kernel) (fun h1 he1 Na_1 ho1 => ?_)
  refine q_vret rfl rfl ?_
  exact ⟨rfl, he1⟩
theorem sX3_isForgotten {X : XX} {h : XH} {n dd : Nat} {done moment first spent : Int32} (Na : h[n]? = some (.inr (3, [.ref dd, .int done, .int moment, .int first, .int spent])))  : x_ev X xT 1 42 [.ref n] h (some (.int (f_neg done))) h := by
  refine q_ev (L := [some (.ref n)]) tX3_isForgotten (Nat.le_of_ble_eq_true rfl) rfl ?_
  refine q_aload_n rfl rfl ?_
  refine q_getfield rfl Na rfl ?_
  refine q_if_ge rfl (fun hc4 => ?_) (fun hc4 => ?_)
  · refine q_iconst (v := 0) rfl rfl ?_
    refine q_zret rfl rfl (by decide) ?_
    exact ⟨by simp [f_neg, *], rfl⟩
  · refine q_iconst (v := 1) rfl rfl ?_
    refine q_goto rfl ?_
    refine q_zret rfl rfl (by decide) ?_
    exact ⟨by simp [f_neg, *], rfl⟩
theorem sX3_done {X : XX} {h : XH} {n dd : Nat} {done moment first spent : Int32} (Na : h[n]? = some (.inr (3, [.ref dd, .int done, .int moment, .int first, .int spent])))  : x_ev X xT 1 43 [.ref n] h (some (.int done)) h := by
  refine q_ev (L := [some (.ref n)]) tX3_done (Nat.le_of_ble_eq_true rfl) rfl ?_
  refine q_aload_n rfl rfl ?_
  refine q_getfield rfl Na rfl ?_
  refine q_iret rfl rfl ?_
  exact ⟨rfl, rfl⟩
theorem sX3_now {X : XX} {h : XH} {n dd : Nat} {done moment first spent : Int32} (Na : h[n]? = some (.inr (3, [.ref dd, .int done, .int moment, .int first, .int spent])))  : x_ev X xT 1 44 [.ref n] h (some (.int moment)) h := by
  refine q_ev (L := [some (.ref n)]) tX3_now (Nat.le_of_ble_eq_true rfl) rfl ?_
  refine q_aload_n rfl rfl ?_
  refine q_getfield rfl Na rfl ?_
  refine q_iret rfl rfl ?_
  exact ⟨rfl, rfl⟩
theorem sX3_first {X : XX} {h : XH} {n dd : Nat} {done moment first spent : Int32} (Na : h[n]? = some (.inr (3, [.ref dd, .int done, .int moment, .int first, .int spent])))  : x_ev X xT 1 45 [.ref n] h (some (.int first)) h := by
  refine q_ev (L := [some (.ref n)]) tX3_first (Nat.le_of_ble_eq_true rfl) rfl ?_
  refine q_aload_n rfl rfl ?_
  refine q_getfield rfl Na rfl ?_
  refine q_iret rfl rfl ?_
  exact ⟨rfl, rfl⟩
theorem sX3_spent {X : XX} {h : XH} {n dd : Nat} {done moment first spent : Int32} (Na : h[n]? = some (.inr (3, [.ref dd, .int done, .int moment, .int first, .int spent])))  : x_ev X xT 1 46 [.ref n] h (some (.int spent)) h := by
  refine q_ev (L := [some (.ref n)]) tX3_spent (Nat.le_of_ble_eq_true rfl) rfl ?_
  refine q_aload_n rfl rfl ?_
  refine q_getfield rfl Na rfl ?_
  refine q_iret rfl rfl ?_
  exact ⟨rfl, rfl⟩
def f_hrm (done x : Int32) : Int32 := if done < 0 then 0 else if 40 < done + x then 0 else 1
theorem sX3_hasRoom {X : XX} {h : XH} {n dd : Nat} {done moment first spent : Int32} (Na : h[n]? = some (.inr (3, [.ref dd, .int done, .int moment, .int first, .int spent]))) {df : Nat → Int32} (Nd : h[dd]? = some (.inl (0, 40, .inl df))) (ld : dd < 1000) (x : Int32) : x_ev X xT 1 47 [.ref n, .int x] h (some (.int (f_hrm done x))) h := by
  refine q_ev (L := [some (.ref n), some (.int x)]) tX3_hasRoom (Nat.le_of_ble_eq_true rfl) rfl ?_
  refine q_aload_n rfl rfl ?_
  refine q_getfield rfl Na rfl ?_
  refine q_if_lt rfl (fun hc4 => ?_) (fun hc4 => ?_)
  · refine q_iconst (v := 0) rfl rfl ?_
    refine q_zret rfl rfl (by decide) ?_
    exact ⟨by first | (simp [f_hrm, *]; done) | (have hc18 := hc18; simp only [show Int32.ofNat 40 = (40 : Int32) from rfl] at hc18; simp [f_hrm, *]; done), rfl⟩
  · refine q_aload_n rfl rfl ?_
    refine q_getfield rfl Na rfl ?_
    refine q_iload_n rfl rfl ?_
    refine q_iadd rfl ?_
    refine q_aload_n rfl rfl ?_
    refine q_getfield rfl Na rfl ?_
    refine q_alen rfl (ld) Nd (by decide) rfl ?_
    refine q_icmp_gt rfl (fun hc18 => ?_) (fun hc18 => ?_)
    · refine q_iconst (v := 0) rfl rfl ?_
      refine q_zret rfl rfl (by decide) ?_
      exact ⟨by first | (simp [f_hrm, *]; done) | (have hc18 := hc18; simp only [show Int32.ofNat 40 = (40 : Int32) from rfl] at hc18; simp [f_hrm, *]; done), rfl⟩
    · refine q_iconst (v := 1) rfl rfl ?_
      refine q_goto rfl ?_
      refine q_zret rfl rfl (by decide) ?_
      exact ⟨by first | (simp [f_hrm, *]; done) | (have hc18 := hc18; simp only [show Int32.ofNat 40 = (40 : Int32) from rfl] at hc18; simp [f_hrm, *]; done), rfl⟩
theorem f_hrm_1 {k : Nat} (hk : k < 40) : f_hrm (nI k) 1 = 1 := by
  have h1 : ¬ nI k < 0 := nI_pos (by omega)
  have h2 : ¬ (40 : Int32) < nI k + 1 := by
    rw [← nI_succ]
    exact nI_nlt (a := 40) (b := k + 1) (by omega) (by omega)
  simp [f_hrm, h1, h2]
theorem f_ixk {k m : Nat} (hk : k < m) (hm : m < 2 ^ 31) : ¬ (nI k < 0 ∨ m ≤ (nI k).toNatClampNeg) := nI_in hk hm
theorem sX3_note {X : XX} {h : XH} {n dd : Nat} {k : Nat} {moment first spent : Int32} {df : Nat → Int32} (Na : h[n]? = some (.inr (3, [.ref dd, .int (nI k), .int moment, .int first, .int spent]))) (Nd : h[dd]? = some (.inl (0, 40, .inl df))) (ld : dd < 1000) (hk : k < 40) (x : Int32) : x_ev X xT 2 52 [.ref n, .int x] h none ((h.set dd (.inl (0, 40, .inl (upd df k x)))).set n (.inr (3, [.ref dd, .int (nI (k + 1)), .int moment, .int first, .int spent]))) := by
  refine q_ev (L := [some (.ref n), some (.int x)]) tX3_note (Nat.le_of_ble_eq_true rfl) rfl ?_
  refine q_aload_n rfl rfl ?_
  refine q_iconst (v := 1) rfl rfl ?_
  refine q_callV1 rfl Na (Nat.le_of_ble_eq_true rfl) (Nat.le_of_ble_eq_true rfl) (sX3_hasRoom Na Nd ld 1) ?_
  refine q_if_eq rfl (fun hc5 => ?_) (fun hc5 => ?_)
  · exact absurd hc5 (by rw [f_hrm_1 hk]; decide)
  · refine q_aload_n rfl rfl ?_
    refine q_getfield rfl Na rfl ?_
    refine q_aload_n rfl rfl ?_
    refine q_getfield rfl Na rfl ?_
    refine q_iload_n rfl rfl ?_
    refine q_iastX rfl Nd (f_ixk hk (by omega)) (fun h1 he1 Nd_1 ho1 => ?_)
    have Na_1 := ho1 _ _ (x_ne2 Na Nd) Na
    refine q_aload_n rfl rfl ?_
    refine q_dupA rfl ?_
    refine q_getfield rfl Na_1 rfl ?_
    refine q_iconst (v := 1) rfl rfl ?_
    refine q_iadd rfl ?_
    refine q_putX rfl Na_1 rfl (Nat.le_of_ble_eq_true rfl) (rfl) (by decide +kernel) (fun h2 he2 Na_2 ho2 => ?_)
    have Nd_2 := ho2 _ _ (x_ne1 Na Nd) Nd_1
    refine q_vret rfl rfl ?_
    refine ⟨rfl, ?_⟩
    rw [he2, he1, nI_clamp (show k < 2 ^ 31 by omega), nI_succ]
    rfl
theorem sX3_pass {X : XX} {h : XH} {n dd : Nat} {k : Nat} {moment first spent : Int32} {df : Nat → Int32} (Na : h[n]? = some (.inr (3, [.ref dd, .int (nI k), .int moment, .int first, .int spent]))) (Nd : h[dd]? = some (.inl (0, 40, .inl df))) (ld : dd < 1000) (hk : k < 40)  : x_ev X xT 3 48 [.ref n] h none ((h.set dd (.inl (0, 40, .inl (upd df k 0)))).set n (.inr (3, [.ref dd, .int (nI (k + 1)), .int (moment + 1), .int first, .int spent]))) := by
  refine q_ev (L := [some (.ref n)]) tX3_pass (Nat.le_of_ble_eq_true rfl) rfl ?_
  refine q_aload_n rfl rfl ?_
  refine q_iconst (v := 0) rfl rfl ?_
  refine q_callV1 rfl Na (Nat.le_of_ble_eq_true rfl) (Nat.le_of_ble_eq_true rfl) (sX3_note Na Nd ld hk 0) ?_
  generalize hg : (List.set (List.set h dd (.inl (0, 40, .inl (upd df k 0)))) n (.inr (3, [.ref dd, .int (nI (k + 1)), .int moment, .int first, .int spent])) : XH) = g1
  have Ng : g1[n]? = some (.inr (3, [.ref dd, .int (nI (k + 1)), .int moment, .int first, .int spent])) := by rw [← hg]; exact x_gs (x_gn (x_ne2 Na Nd) Na)
  refine q_aload_n rfl rfl ?_
  refine q_dupA rfl ?_
  refine q_getfield rfl Ng rfl ?_
  refine q_iconst (v := 1) rfl rfl ?_
  refine q_iadd rfl ?_
  refine q_putX rfl Ng rfl (Nat.le_of_ble_eq_true rfl) (rfl) (by decide +kernel) (fun h1 he1 Na_1 ho1 => ?_)
  refine q_vret rfl rfl ?_
  refine ⟨rfl, ?_⟩
  rw [he1, ← hg]
  simp [List.set_set]
theorem sX3_turnBy {X : XX} {h : XH} {n dd : Nat} {k : Nat} {moment first spent : Int32} {df : Nat → Int32} (Na : h[n]? = some (.inr (3, [.ref dd, .int (nI k), .int moment, .int first, .int spent]))) (Nd : h[dd]? = some (.inl (0, 40, .inl df))) (ld : dd < 1000) (hk : k < 40) {b : Nat} {broad sticks : Int32} (Sb : h[b]? = some (.inr (6, [.int broad, .int sticks]))) (x : Int32) : x_ev X xT 4 49 [.ref n, .int x, .ref b] h (some (.int (f_ef sticks first x))) ((h.set dd (.inl (0, 40, .inl (upd df k x)))).set n (.inr (3, [.ref dd, .int (nI (k + 1)), .int moment, .int (f_rd (first + x)), .int (spent + f_ef sticks first x)]))) := by
  refine q_ev (L := [some (.ref n), some (.int x), some (.ref b), none]) tX3_turnBy (Nat.le_of_ble_eq_true rfl) rfl ?_
  refine q_aload_n rfl rfl ?_
  refine q_iload_n rfl rfl ?_
  refine q_callV1 rfl Na (Nat.le_of_ble_eq_true rfl) (Nat.le_of_ble_eq_true rfl) (sX3_note Na Nd ld hk x) ?_
  generalize hg : (List.set (List.set h dd (.inl (0, 40, .inl (upd df k x)))) n (.inr (3, [.ref dd, .int (nI (k + 1)), .int moment, .int first, .int spent])) : XH) = g1
  have Ng : g1[n]? = some (.inr (3, [.ref dd, .int (nI (k + 1)), .int moment, .int first, .int spent])) := by rw [← hg]; exact x_gs (x_gn (x_ne2 Na Nd) Na)
  have Sg : g1[b]? = some (.inr (6, [.int broad, .int sticks])) := by rw [← hg]; exact x_gn (x_ne3 Sb Na (by decide)) (x_gn (x_ne2 Sb Nd) Sb)
  refine q_aload_n rfl rfl ?_
  refine q_aload_n rfl rfl ?_
  refine q_getfield rfl Ng rfl ?_
  refine q_iload_n rfl rfl ?_
  refine q_callV2 rfl Sg (Nat.le_of_ble_eq_true rfl) (Nat.le_of_ble_eq_true rfl) (sX6_effortOf Sg first x) ?_
  refine q_istore_n (L' := [_, _, _, _]) rfl rfl ?_
  refine q_aload_n rfl rfl ?_
  refine q_aload_n rfl rfl ?_
  refine q_getfield rfl Ng rfl ?_
  refine q_iload_n rfl rfl ?_
  refine q_iadd rfl ?_
  refine q_callS1 rfl rfl (Nat.le_of_ble_eq_true rfl) (Nat.le_of_ble_eq_true rfl) (sX8_round _) ?_
  refine q_putX rfl Ng rfl (Nat.le_of_ble_eq_true rfl) (rfl) (by decide +kernel) (fun h1 he1 Na_1 ho1 => ?_)
  have Sb_1 := ho1 _ _ (x_ne3 Sb Na (by decide)) Sg
  refine q_aload_n rfl rfl ?_
  refine q_dupA rfl ?_
  refine q_getfield rfl Na_1 rfl ?_
  refine q_iload_n rfl rfl ?_
  refine q_iadd rfl ?_
  refine q_putX rfl Na_1 rfl (Nat.le_of_ble_eq_true rfl) (rfl) (by decide +kernel) (fun h2 he2 Na_2 ho2 => ?_)
  have Sb_2 := ho2 _ _ (x_ne3 Sb Na (by decide)) Sb_1
  refine q_iload_n rfl rfl ?_
  refine q_iret rfl rfl ?_
  refine ⟨rfl, ?_⟩
  rw [he2, he1, ← hg]
  simp [List.set_set]
theorem sX3_become {X : XX} {h : XH} {n dd n2 d2 : Nat} {done moment first spent done2 moment2 first2 spent2 : Int32} {df df2 : Nat → Int32} (Na : h[n]? = some (.inr (3, [.ref dd, .int done, .int moment, .int first, .int spent]))) (Nd : h[dd]? = some (.inl (0, 40, .inl df))) (Nb : h[n2]? = some (.inr (3, [.ref d2, .int done2, .int moment2, .int first2, .int spent2]))) (Ne : h[d2]? = some (.inl (0, 40, .inl df2))) (hne : n2 ≠ n) (hde : d2 ≠ dd)  : x_ev X xT 2 51 [.ref n, .ref n2] h none ((h.set dd (.inl (0, 40, .inl (va_cpy df2 df 0 0 40)))).set n (.inr (3, [.ref dd, .int done2, .int moment2, .int first2, .int spent2]))) := by
  refine q_ev (L := [some (.ref n), some (.ref n2)]) tX3_become (Nat.le_of_ble_eq_true rfl) rfl ?_
  refine q_aload_n rfl rfl ?_
  refine q_getfield rfl Nb rfl ?_
  refine q_iconst (v := 0) rfl rfl ?_
  refine q_aload_n rfl rfl ?_
  refine q_getfield rfl Na rfl ?_
  refine q_iconst (v := 0) rfl rfl ?_
  refine q_bipush (v := 40) rfl rfl ?_
  refine q_cpyX rfl rfl Ne Nd (by decide) (fun h1 he1 Nd_1 ho1 => ?_)
  have Na_1 := ho1 _ _ (x_ne2 Na Nd) Na
  have Nb_1 := ho1 _ _ (x_ne2 Nb Nd) Nb
  have Ne_1 := ho1 _ _ (hde) Ne
  refine q_aload_n rfl rfl ?_
  refine q_aload_n rfl rfl ?_
  refine q_getfield rfl Nb_1 rfl ?_
  refine q_putX rfl Na_1 rfl (Nat.le_of_ble_eq_true rfl) (rfl) (by decide +kernel) (fun h2 he2 Na_2 ho2 => ?_)
  have Nb_2 := ho2 _ _ (hne) Nb_1
  have Nd_2 := ho2 _ _ (x_ne1 Na Nd) Nd_1
  have Ne_2 := ho2 _ _ (x_ne1 Na Ne) Ne_1
  refine q_aload_n rfl rfl ?_
  refine q_aload_n rfl rfl ?_
  refine q_getfield rfl Nb_2 rfl ?_
  refine q_putX rfl Na_2 rfl (Nat.le_of_ble_eq_true rfl) (rfl) (by decide +kernel) (fun h3 he3 Na_3 ho3 => ?_)
  have Nb_3 := ho3 _ _ (hne) Nb_2
  have Nd_3 := ho3 _ _ (x_ne1 Na Nd) Nd_2
  have Ne_3 := ho3 _ _ (x_ne1 Na Ne) Ne_2
  refine q_aload_n rfl rfl ?_
  refine q_aload_n rfl rfl ?_
  refine q_getfield rfl Nb_3 rfl ?_
  refine q_putX rfl Na_3 rfl (Nat.le_of_ble_eq_true rfl) (rfl) (by decide +kernel) (fun h4 he4 Na_4 ho4 => ?_)
  have Nb_4 := ho4 _ _ (hne) Nb_3
  have Nd_4 := ho4 _ _ (x_ne1 Na Nd) Nd_3
  have Ne_4 := ho4 _ _ (x_ne1 Na Ne) Ne_3
  refine q_aload_n rfl rfl ?_
  refine q_aload_n rfl rfl ?_
  refine q_getfield rfl Nb_4 rfl ?_
  refine q_putX rfl Na_4 rfl (Nat.le_of_ble_eq_true rfl) (rfl) (by decide +kernel) (fun h5 he5 Na_5 ho5 => ?_)
  have Nb_5 := ho5 _ _ (hne) Nb_4
  have Nd_5 := ho5 _ _ (x_ne1 Na Nd) Nd_4
  have Ne_5 := ho5 _ _ (x_ne1 Na Ne) Ne_4
  refine q_vret rfl rfl ?_
  refine ⟨rfl, ?_⟩
  rw [he5, he4, he3, he2, he1]
  simp [List.set_set]
end
section
/-! loops of Arrays, Line, Light -/
theorem nI_inc (i : Nat) : nI i + Int32.ofInt 1 = nI (i + 1) := (nI_succ i).symm
theorem nI_nge {a b : Nat} (h : a < b) (hb : b < 2 ^ 31) : ¬ nI b ≤ nI a := nI_ge h hb
def f_fill (g : Nat → Int32) (v : Int32) (i n : Nat) : Nat → Int32 := fun j => if i ≤ j ∧ j < i + n then v else g j
theorem f_fill_0 (g : Nat → Int32) (v : Int32) (i : Nat) : f_fill g v i 0 = g := by
  funext j
  unfold f_fill
  rw [if_neg (by omega)]
theorem f_fill_s (g : Nat → Int32) (v : Int32) (i n : Nat) : f_fill (upd g i v) v (i + 1) n = f_fill g v i (n + 1) := by
  funext j
  unfold f_fill upd
  by_cases h1 : j = i
  · subst h1
    simp
  · by_cases h2 : i + 1 ≤ j ∧ j < i + 1 + n
    · rw [if_pos h2, if_pos (by omega)]
    · rw [if_neg h2, if_neg h1, if_neg (by omega)]
theorem lp_J7_fill_53178 {X : XX} {c m : Nat} {v : Int32} (lc : c < 1000) (hm : m < 2 ^ 31) : ∀ (n i : Nat) (g : Nat → Int32) (h : XH), i + n = m → h[c]? = some (.inl (0, m, .inl g)) → Wp X xT 0 mJ7_fill_53178 5 [some (.ref c), some (.int v), some (.int (nI i)), some (.int (nI m))] [] h (fun r' h'' => r' = none ∧ h'' = h.set c (.inl (0, m, .inl (f_fill g v i n)))) := by
  intro n
  induction n with
  | zero =>
    intro i g h hi Lc
    refine q_iload_n rfl rfl ?_
    refine q_iload_n rfl rfl ?_
    refine q_icmp_ge rfl (fun hc7 => ?_) (fun hc7 => ?_)
    · refine q_vret rfl rfl ?_
      exact ⟨rfl, by rw [f_fill_0, x_set_same Lc]⟩
    · exact absurd (nI_le (show m ≤ i by omega) (by omega)) hc7
  | succ n ih =>
    intro i g h hi Lc
    refine q_iload_n rfl rfl ?_
    refine q_iload_n rfl rfl ?_
    refine q_icmp_ge rfl (fun hc7 => ?_) (fun hc7 => ?_)
    · exact absurd hc7 (nI_nge (show i < m by omega) (by omega))
    · refine q_aload_n rfl rfl ?_
      refine q_iload_n rfl rfl ?_
      refine q_iload_n rfl rfl ?_
      refine q_iastX rfl Lc (f_ixk (show i < m by omega) hm) (fun h1 he1 Lc_1 ho1 => ?_)
      refine q_iinc (v := nI (i + 1)) (L' := [_, _, _, _]) rfl rfl (nI_inc i) rfl ?_
      refine q_goto rfl ?_
      rw [nI_clamp (show i < 2 ^ 31 by omega)] at he1 Lc_1
      refine q_post (ih (i + 1) (upd g i v) h1 (by omega) Lc_1) (fun r h2 hh => ⟨hh.1, ?_⟩)
      rw [hh.2, he1, List.set_set, f_fill_s]
theorem sJ7_fill_53178 {X : XX} {h : XH} {c m : Nat} {g : Nat → Int32} (Lc : h[c]? = some (.inl (0, m, .inl g))) (lc : c < 1000) (hm : m < 2 ^ 31) (v : Int32) : x_ev X xT 1 257 [.ref c, .int v] h none (h.set c (.inl (0, m, .inl (f_fill g v 0 m)))) := by
  refine q_ev (L := [some (.ref c), some (.int v), none, none]) tJ7_fill_53178 (Nat.le_of_ble_eq_true rfl) rfl ?_
  refine q_iconst (v := 0) rfl rfl ?_
  refine q_istore_n (L' := [_, _, _, _]) rfl rfl ?_
  refine q_aload_n rfl rfl ?_
  refine q_alen rfl (lc) Lc (by decide) rfl ?_
  refine q_istore_n (L' := [_, _, _, _]) rfl rfl ?_
  exact lp_J7_fill_53178 lc hm m 0 g h (by omega) Lc
theorem sX2_renew {X : XX} {h : XH} {a c m : Nat} {sz : Int32} {f : Nat → Int32} (La : h[a]? = some (.inr (2, [.ref c, .int sz]))) (Lc : h[c]? = some (.inl (0, m, .inl f))) (lc : c < 1000) (hm : m < 2 ^ 31) (x v : Int32) : x_ev X xT 2 29 [.ref a, .int x, .int v] h none ((h.set a (.inr (2, [.ref c, .int (f_max 0 (f_min x (nI m)))]))).set c (.inl (0, m, .inl (f_fill f v 0 m)))) := by
  refine q_ev (L := [some (.ref a), some (.int x), some (.int v)]) tX2_renew (Nat.le_of_ble_eq_true rfl) rfl ?_
  refine q_aload_n rfl rfl ?_
  refine q_iconst (v := 0) rfl rfl ?_
  refine q_iload_n rfl rfl ?_
  refine q_aload_n rfl rfl ?_
  refine q_getfield rfl La rfl ?_
  refine q_alen rfl (lc) Lc (by decide) rfl ?_
  refine q_callS2 rfl rfl (Nat.le_of_ble_eq_true rfl) (Nat.le_of_ble_eq_true rfl) (sJ9_min_7cf53 _ _) ?_
  refine q_callS2 rfl rfl (Nat.le_of_ble_eq_true rfl) (Nat.le_of_ble_eq_true rfl) (sJ9_max_7cf53 _ _) ?_
  refine q_putX rfl La rfl (Nat.le_of_ble_eq_true rfl) (rfl) (by decide +kernel) (fun h1 he1 La_1 ho1 => ?_)
  have Lc_1 := ho1 _ _ (x_ne1 La Lc) Lc
  refine q_aload_n rfl rfl ?_
  refine q_getfield rfl La_1 rfl ?_
  refine q_iload_n rfl rfl ?_
  refine q_callS2 rfl rfl (Nat.le_of_ble_eq_true rfl) (Nat.le_of_ble_eq_true rfl) (sJ7_fill_53178 Lc_1 lc hm v) ?_
  refine q_vret rfl rfl ?_
  refine ⟨rfl, ?_⟩
  rw [he1]
  rfl
def f_sum (f : Nat → Int32) : Nat → Nat → Int64 → Int64
  | 0, _, s => s
  | n + 1, i, s => f_sum f n (i + 1) (s + (f i).toInt64)
theorem lp_X2_sum {X : XX} {h : XH} {a c m k : Nat} {f : Nat → Int32} (La : h[a]? = some (.inr (2, [.ref c, .int (nI k)]))) (Lc : h[c]? = some (.inl (0, m, .inl f))) (lc : c < 1000) (hkm : k ≤ m) (hm : m < 2 ^ 31)  : ∀ (n : Nat) (i : Nat) (s : Int64), i + n = k → Wp X xT 0 mX2_sum 4 [some (.ref a), some (.long s), none, some (.int (nI i))] [] h (fun r' h'' => r' = some (.long (f_sum f n i s)) ∧ h'' = h) := by
  intro n
  induction n with
  | zero =>
    intro i s hi
    refine q_iload_n rfl rfl ?_
    refine q_aload_n rfl rfl ?_
    refine q_getfield rfl La rfl ?_
    refine q_icmp_ge rfl (fun hc9 => ?_) (fun hc9 => ?_)
    · refine q_lload_n rfl rfl ?_
      refine q_lret rfl rfl ?_
      exact ⟨rfl, rfl⟩
    · exact absurd (nI_le (show k ≤ i by omega) (by omega)) hc9
  | succ n ih =>
    intro i s hi
    refine q_iload_n rfl rfl ?_
    refine q_aload_n rfl rfl ?_
    refine q_getfield rfl La rfl ?_
    refine q_icmp_ge rfl (fun hc9 => ?_) (fun hc9 => ?_)
    · exact absurd hc9 (nI_nge (show i < k by omega) (by omega))
    · refine q_lload_n rfl rfl ?_
      refine q_aload_n rfl rfl ?_
      refine q_getfield rfl La rfl ?_
      refine q_iload_n rfl rfl ?_
      refine q_iaload rfl (lc) Lc (f_ixk (show i < m by omega) hm) ?_
      refine q_i2l rfl ?_
      refine q_ladd rfl ?_
      refine q_lstore_n (L' := [_, _, _, _]) rfl rfl ?_
      refine q_iinc (v := nI (i + 1)) (L' := [_, _, _, _]) rfl rfl (nI_inc i) rfl ?_
      refine q_goto rfl ?_
      rw [nI_clamp (show i < 2 ^ 31 by omega)]
      exact ih (i + 1) _ (by omega)
theorem sX2_sum {X : XX} {h : XH} {a c m k : Nat} {f : Nat → Int32} (La : h[a]? = some (.inr (2, [.ref c, .int (nI k)]))) (Lc : h[c]? = some (.inl (0, m, .inl f))) (lc : c < 1000) (hkm : k ≤ m) (hm : m < 2 ^ 31)  : x_ev X xT 1 35 [.ref a] h (some (.long (f_sum f k 0 0))) h := by
  refine q_ev (L := [some (.ref a), none, none, none]) tX2_sum (Nat.le_of_ble_eq_true rfl) rfl ?_
  refine q_lconst (v := 0) rfl rfl ?_
  refine q_lstore_n (L' := [_, _, _, _]) rfl rfl ?_
  refine q_iconst (v := 0) rfl rfl ?_
  refine q_istore_n (L' := [_, _, _, _]) rfl rfl ?_
  exact lp_X2_sum La Lc lc hkm hm k 0 0 (by omega)
def f_mix (f : Nat → Int32) : Nat → Nat → Int64 → Int64
  | 0, _, s => s
  | n + 1, i, s => f_mix f n (i + 1) (31 * s + (f i).toInt64)
theorem lp_X2_mixedInto {X : XX} {h : XH} {a c m k : Nat} {f : Nat → Int32} (La : h[a]? = some (.inr (2, [.ref c, .int (nI k)]))) (Lc : h[c]? = some (.inl (0, m, .inl f))) (lc : c < 1000) (hkm : k ≤ m) (hm : m < 2 ^ 31)  : ∀ (n : Nat) (i : Nat) (s : Int64), i + n = k → Wp X xT 0 mX2_mixedInto 14 [some (.ref a), some (.long s), none, some (.int (nI i))] [] h (fun r' h'' => r' = some (.long (f_mix f n i s)) ∧ h'' = h) := by
  intro n
  induction n with
  | zero =>
    intro i s hi
    refine q_iload_n rfl rfl ?_
    refine q_aload_n rfl rfl ?_
    refine q_getfield rfl La rfl ?_
    refine q_icmp_ge rfl (fun hc19 => ?_) (fun hc19 => ?_)
    · refine q_lload_n rfl rfl ?_
      refine q_lret rfl rfl ?_
      exact ⟨rfl, rfl⟩
    · exact absurd (nI_le (show k ≤ i by omega) (by omega)) hc19
  | succ n ih =>
    intro i s hi
    refine q_iload_n rfl rfl ?_
    refine q_aload_n rfl rfl ?_
    refine q_getfield rfl La rfl ?_
    refine q_icmp_ge rfl (fun hc19 => ?_) (fun hc19 => ?_)
    · exact absurd hc19 (nI_nge (show i < k by omega) (by omega))
    · refine q_ldc2_w (v := 31) rfl rfl ?_
      refine q_lload_n rfl rfl ?_
      refine q_lmul rfl ?_
      refine q_aload_n rfl rfl ?_
      refine q_getfield rfl La rfl ?_
      refine q_iload_n rfl rfl ?_
      refine q_iaload rfl (lc) Lc (f_ixk (show i < m by omega) hm) ?_
      refine q_i2l rfl ?_
      refine q_ladd rfl ?_
      refine q_lstore_n (L' := [_, _, _, _]) rfl rfl ?_
      refine q_iinc (v := nI (i + 1)) (L' := [_, _, _, _]) rfl rfl (nI_inc i) rfl ?_
      refine q_goto rfl ?_
      rw [nI_clamp (show i < 2 ^ 31 by omega)]
      exact ih (i + 1) _ (by omega)
theorem sX2_mixedInto {X : XX} {h : XH} {a c m k : Nat} {f : Nat → Int32} (La : h[a]? = some (.inr (2, [.ref c, .int (nI k)]))) (Lc : h[c]? = some (.inl (0, m, .inl f))) (lc : c < 1000) (hkm : k ≤ m) (hm : m < 2 ^ 31) (s : Int64) : x_ev X xT 1 38 [.ref a, .long s] h (some (.long (f_mix f k 0 (31 * s + (nI k).toInt64)))) h := by
  refine q_ev (L := [some (.ref a), some (.long s), none, none]) tX2_mixedInto (Nat.le_of_ble_eq_true rfl) rfl ?_
  refine q_ldc2_w (v := 31) rfl rfl ?_
  refine q_lload_n rfl rfl ?_
  refine q_lmul rfl ?_
  refine q_aload_n rfl rfl ?_
  refine q_getfield rfl La rfl ?_
  refine q_i2l rfl ?_
  refine q_ladd rfl ?_
  refine q_lstore_n (L' := [_, _, _, _]) rfl rfl ?_
  refine q_iconst (v := 0) rfl rfl ?_
  refine q_istore_n (L' := [_, _, _, _]) rfl rfl ?_
  exact lp_X2_mixedInto La Lc lc hkm hm k 0 _ (by omega)
theorem sX2_mixedInto_no {X : XX} {h : XH} {a c : Nat} (La : h[a]? = some (.inr (2, [.ref c, .int (-1)]))) (s : Int64) : x_ev X xT 1 38 [.ref a, .long s] h (some (.long (31 * s + (-1 : Int32).toInt64))) h := by
  refine q_ev (L := [some (.ref a), some (.long s), none, none]) tX2_mixedInto (Nat.le_of_ble_eq_true rfl) rfl ?_
  refine q_ldc2_w (v := 31) rfl rfl ?_
  refine q_lload_n rfl rfl ?_
  refine q_lmul rfl ?_
  refine q_aload_n rfl rfl ?_
  refine q_getfield rfl La rfl ?_
  refine q_i2l rfl ?_
  refine q_ladd rfl ?_
  refine q_lstore_n (L' := [_, _, _, _]) rfl rfl ?_
  refine q_iconst (v := 0) rfl rfl ?_
  refine q_istore_n (L' := [_, _, _, _]) rfl rfl ?_
  refine q_iload_n rfl rfl ?_
  refine q_aload_n rfl rfl ?_
  refine q_getfield rfl La rfl ?_
  refine q_icmp_ge rfl (fun hc19 => ?_) (fun hc19 => ?_)
  · refine q_lload_n rfl rfl ?_
    refine q_lret rfl rfl ?_
    exact ⟨rfl, rfl⟩
  · exact absurd (by decide) hc19
def f_all (f : Nat → Int32) (lo hi : Int32) : Nat → Nat → Int32
  | 0, _ => 1
  | n + 1, i => if f i < lo then 0 else if f i ≤ hi then f_all f lo hi n (i + 1) else 0
theorem lp_X2_isAllWithin {X : XX} {h : XH} {a c m k : Nat} {f : Nat → Int32} (La : h[a]? = some (.inr (2, [.ref c, .int (nI k)]))) (Lc : h[c]? = some (.inl (0, m, .inl f))) (lc : c < 1000) (hkm : k ≤ m) (hm : m < 2 ^ 31) (lo hi : Int32) : ∀ (n : Nat) (i : Nat), i + n = k → Wp X xT 0 mX2_isAllWithin 2 [some (.ref a), some (.int lo), some (.int hi), some (.int (nI i))] [] h (fun r' h'' => r' = some (.int (f_all f lo hi n i)) ∧ h'' = h) := by
  intro n
  induction n with
  | zero =>
    intro i hi9
    refine q_iload_n rfl rfl ?_
    refine q_aload_n rfl rfl ?_
    refine q_getfield rfl La rfl ?_
    refine q_icmp_ge rfl (fun hc7 => ?_) (fun hc7 => ?_)
    · refine q_iconst (v := 1) rfl rfl ?_
      refine q_zret rfl rfl (by decide) ?_
      exact ⟨rfl, rfl⟩
    · exact absurd (nI_le (show k ≤ i by omega) (by omega)) hc7
  | succ n ih =>
    intro i hi9
    refine q_iload_n rfl rfl ?_
    refine q_aload_n rfl rfl ?_
    refine q_getfield rfl La rfl ?_
    refine q_icmp_ge rfl (fun hc7 => ?_) (fun hc7 => ?_)
    · exact absurd hc7 (nI_nge (show i < k by omega) (by omega))
    · refine q_aload_n rfl rfl ?_
      refine q_getfield rfl La rfl ?_
      refine q_iload_n rfl rfl ?_
      refine q_iaload rfl (lc) Lc (f_ixk (show i < m by omega) hm) ?_
      refine q_iload_n rfl rfl ?_
      refine q_icmp_lt rfl (fun hc17 => ?_) (fun hc17 => ?_)
      · refine q_iconst (v := 0) rfl rfl ?_
        refine q_zret rfl rfl (by decide) ?_
        rw [nI_clamp (show i < 2 ^ 31 by omega)] at *
        exact ⟨by simp [f_all, *], rfl⟩
      · refine q_aload_n rfl rfl ?_
        refine q_getfield rfl La rfl ?_
        refine q_iload_n rfl rfl ?_
        refine q_iaload rfl (lc) Lc (f_ixk (show i < m by omega) hm) ?_
        refine q_iload_n rfl rfl ?_
        refine q_icmp_le rfl (fun hc27 => ?_) (fun hc27 => ?_)
        · refine q_iinc (v := nI (i + 1)) (L' := [_, _, _, _]) rfl rfl (nI_inc i) rfl ?_
          refine q_goto rfl ?_
          rw [nI_clamp (show i < 2 ^ 31 by omega)] at hc17 hc27
          refine q_post (ih (i + 1) (by omega)) (fun r h2 hh => ⟨?_, hh.2⟩)
          rw [hh.1]
          simp [f_all, hc17, hc27]
        · refine q_iconst (v := 0) rfl rfl ?_
          refine q_zret rfl rfl (by decide) ?_
          rw [nI_clamp (show i < 2 ^ 31 by omega)] at *
          exact ⟨by simp [f_all, *], rfl⟩
theorem sX2_isAllWithin {X : XX} {h : XH} {a c m k : Nat} {f : Nat → Int32} (La : h[a]? = some (.inr (2, [.ref c, .int (nI k)]))) (Lc : h[c]? = some (.inl (0, m, .inl f))) (lc : c < 1000) (hkm : k ≤ m) (hm : m < 2 ^ 31) (lo hi : Int32) : x_ev X xT 1 36 [.ref a, .int lo, .int hi] h (some (.int (f_all f lo hi k 0))) h := by
  refine q_ev (L := [some (.ref a), some (.int lo), some (.int hi), none]) tX2_isAllWithin (Nat.le_of_ble_eq_true rfl) rfl ?_
  refine q_iconst (v := 0) rfl rfl ?_
  refine q_istore_n (L' := [_, _, _, _]) rfl rfl ?_
  exact lp_X2_isAllWithin La Lc lc hkm hm lo hi k 0 (by omega)
def f_less (f : Nat → Int32) : Nat → Nat → Int32
  | 0, _ => -9
  | n + 1, i => if f (i - 1) ≤ f i then f_less f n (i + 1) else nI i
theorem lp_X2_firstLess {X : XX} {h : XH} {a c m k : Nat} {f : Nat → Int32} (La : h[a]? = some (.inr (2, [.ref c, .int (nI k)]))) (Lc : h[c]? = some (.inl (0, m, .inl f))) (lc : c < 1000) (hkm : k ≤ m) (hm : m < 2 ^ 31)  : ∀ (n : Nat) (i : Nat), 1 ≤ i → i + n = k ∨ (n = 0 ∧ k = 0 ∧ i = 1) → Wp X xT 0 mX2_firstLess 2 [some (.ref a), some (.int (nI i))] [] h (fun r' h'' => r' = some (.int (f_less f n i)) ∧ h'' = h) := by
  intro n
  induction n with
  | zero =>
    intro i h1i hi
    refine q_iload_n rfl rfl ?_
    refine q_aload_n rfl rfl ?_
    refine q_getfield rfl La rfl ?_
    refine q_icmp_ge rfl (fun hc7 => ?_) (fun hc7 => ?_)
    · refine q_bipush (v := (-9)) rfl rfl ?_
      refine q_iret rfl rfl ?_
      exact ⟨rfl, rfl⟩
    · exact absurd (nI_le (show k ≤ i by omega) (by omega)) hc7
  | succ n ih =>
    intro i h1i hi
    refine q_iload_n rfl rfl ?_
    refine q_aload_n rfl rfl ?_
    refine q_getfield rfl La rfl ?_
    refine q_icmp_ge rfl (fun hc7 => ?_) (fun hc7 => ?_)
    · exact absurd hc7 (nI_nge (show i < k by omega) (by omega))
    · refine q_aload_n rfl rfl ?_
      refine q_getfield rfl La rfl ?_
      refine q_iload_n rfl rfl ?_
      refine q_iaload rfl (lc) Lc (f_ixk (show i < m by omega) hm) ?_
      refine q_aload_n rfl rfl ?_
      refine q_getfield rfl La rfl ?_
      refine q_iload_n rfl rfl ?_
      refine q_iconst (v := 1) rfl rfl ?_
      refine q_isub rfl ?_
      refine q_iaload rfl (lc) Lc (by rw [show nI i - 1 = nI (i - 1) from pk_sub (a := i) (b := 1) h1i]; exact f_ixk (show i - 1 < m by omega) hm) ?_
      refine q_icmp_ge rfl (fun hc24 => ?_) (fun hc24 => ?_)
      · refine q_iinc (v := nI (i + 1)) (L' := [_, _]) rfl rfl (nI_inc i) rfl ?_
        refine q_goto rfl ?_
        have e1 : (nI i - 1).toNatClampNeg = i - 1 := by rw [show nI i - 1 = nI (i - 1) from pk_sub (a := i) (b := 1) h1i]; exact nI_clamp (by omega)
        rw [e1, nI_clamp (show i < 2 ^ 31 by omega)] at hc24
        refine q_post (ih (i + 1) (by omega) (by omega)) (fun r h2 hh => ⟨?_, hh.2⟩)
        rw [hh.1]
        simp [f_less, hc24]
      · refine q_iload_n rfl rfl ?_
        refine q_iret rfl rfl ?_
        have e1 : (nI i - 1).toNatClampNeg = i - 1 := by rw [show nI i - 1 = nI (i - 1) from pk_sub (a := i) (b := 1) h1i]; exact nI_clamp (by omega)
        rw [e1, nI_clamp (show i < 2 ^ 31 by omega)] at hc24
        exact ⟨by simp [f_less, hc24], rfl⟩
theorem sX2_firstLess {X : XX} {h : XH} {a c m k : Nat} {f : Nat → Int32} (La : h[a]? = some (.inr (2, [.ref c, .int (nI k)]))) (Lc : h[c]? = some (.inl (0, m, .inl f))) (lc : c < 1000) (hkm : k ≤ m) (hm : m < 2 ^ 31)  : x_ev X xT 1 37 [.ref a] h (some (.int (f_less f (k - 1) 1))) h := by
  refine q_ev (L := [some (.ref a), none]) tX2_firstLess (Nat.le_of_ble_eq_true rfl) rfl ?_
  refine q_iconst (v := 1) rfl rfl ?_
  refine q_istore_n (L' := [_, _]) rfl rfl ?_
  exact lp_X2_firstLess La Lc lc hkm hm (k - 1) 1 (by omega) (by omega)
end
section
/-! the heap HX: what its cells are, and how a store changes it -/
def u2 (I : Nat → Nat → Int32) (a k : Nat) (v : Int32) : Nat → Nat → Int32 := fun x y => if x = a ∧ y = k then v else I x y
def uj (J : Nat → Nat → Int64) (a k : Nat) (v : Int64) : Nat → Nat → Int64 := fun x y => if x = a ∧ y = k then v else J x y
def ua (A : Nat → Nat → Int32) (a : Nat) (f : Nat → Int32) : Nat → Nat → Int32 := fun x => if x = a then f else A x
def ub (B : Nat → Nat → Int64) (a : Nat) (f : Nat → Int64) : Nat → Nat → Int64 := fun x => if x = a then f else B x
def uf (F : Nat → Nat) (k v : Nat) : Nat → Nat := fun x => if x = k then v else F x
section HXs
variable {I A : Nat → Nat → Int32} {J B : Nat → Nat → Int64} {F : Nat → Nat}
theorem hx_0 : (HX I A J B F)[0]? = some (.inr (8, [.ref 1, .ref 2, .ref 3, .ref 5, .ref 6, .ref 7, .ref 8, .ref 10, .ref 11, .ref 13, .ref 16, .ref 19, .int (I 0 12), .int (I 0 13), .int (I 0 14), .long (J 0 15), .long (J 0 16)])) := rfl
theorem hx_1 : (HX I A J B F)[1]? = some (.inl (2, 6, .inr (.inr (.inr (.inr xr1))))) := rfl
theorem hx_2 : (HX I A J B F)[2]? = some (.inl (2, 4, .inr (.inr (.inr (.inr xr2))))) := rfl
theorem hx_3 : (HX I A J B F)[3]? = some (.inr (4, [.ref 4, .int (I 3 1), .int (I 3 2), .int (I 3 3), .int (I 3 4), .int (I 3 5)])) := rfl
theorem hx_4 : (HX I A J B F)[4]? = some (.inl (0, 20, .inl (A 4))) := rfl
theorem hx_5 : (HX I A J B F)[5]? = some (.inl (3, 5, .inr (.inr (.inr (.inr xr5))))) := rfl
theorem hx_6 : (HX I A J B F)[6]? = some (.inr (1, [.int (I 6 0), .int (I 6 1), .int (I 6 2), .int (I 6 3)])) := rfl
theorem hx_7 : (HX I A J B F)[7]? = some (.inr (6, [.int (I 7 0), .int (I 7 1)])) := rfl
theorem hx_8 : (HX I A J B F)[8]? = some (.inr (3, [.ref 9, .int (I 8 1), .int (I 8 2), .int (I 8 3), .int (I 8 4)])) := rfl
theorem hx_9 : (HX I A J B F)[9]? = some (.inl (0, 40, .inl (A 9))) := rfl
theorem hx_10 : (HX I A J B F)[10]? = some (.inl (4, 3, .inr (.inr (.inr (.inr xr10))))) := rfl
theorem hx_11 : (HX I A J B F)[11]? = some (.inr (7, [.ref 12])) := rfl
theorem hx_12 : (HX I A J B F)[12]? = some (.inl (0, 192, .inl (A 12))) := rfl
theorem hx_13 : (HX I A J B F)[13]? = some (.inr (0, [.ref 7, .ref 11, .ref (F 0), .ref (F 1)])) := rfl
theorem hx_14 : (HX I A J B F)[14]? = some (.inl (0, 984, .inl (A 14))) := rfl
theorem hx_15 : (HX I A J B F)[15]? = some (.inl (0, 984, .inl (A 15))) := rfl
theorem hx_16 : (HX I A J B F)[16]? = some (.inr (5, [.ref 11, .ref (F 2), .ref (F 3), .long (J 16 3)])) := rfl
theorem hx_17 : (HX I A J B F)[17]? = some (.inl (1, 24, .inr (.inl (B 17)))) := rfl
theorem hx_18 : (HX I A J B F)[18]? = some (.inl (1, 24, .inr (.inl (B 18)))) := rfl
theorem hx_19 : (HX I A J B F)[19]? = some (.inl (0, 6, .inl (A 19))) := rfl
theorem hx_20 : (HX I A J B F)[20]? = some (.inr (2, [.ref 21, .int (I 20 1)])) := rfl
theorem hx_21 : (HX I A J B F)[21]? = some (.inl (0, 40, .inl (A 21))) := rfl
theorem hx_22 : (HX I A J B F)[22]? = some (.inr (2, [.ref 23, .int (I 22 1)])) := rfl
theorem hx_23 : (HX I A J B F)[23]? = some (.inl (0, 40, .inl (A 23))) := rfl
theorem hx_24 : (HX I A J B F)[24]? = some (.inr (2, [.ref 25, .int (I 24 1)])) := rfl
theorem hx_25 : (HX I A J B F)[25]? = some (.inl (0, 40, .inl (A 25))) := rfl
theorem hx_26 : (HX I A J B F)[26]? = some (.inr (2, [.ref 27, .int (I 26 1)])) := rfl
theorem hx_27 : (HX I A J B F)[27]? = some (.inl (0, 40, .inl (A 27))) := rfl
theorem hx_28 : (HX I A J B F)[28]? = some (.inr (2, [.ref 29, .int (I 28 1)])) := rfl
theorem hx_29 : (HX I A J B F)[29]? = some (.inl (0, 40, .inl (A 29))) := rfl
theorem hx_30 : (HX I A J B F)[30]? = some (.inr (2, [.ref 31, .int (I 30 1)])) := rfl
theorem hx_31 : (HX I A J B F)[31]? = some (.inl (0, 40, .inl (A 31))) := rfl
theorem hx_32 : (HX I A J B F)[32]? = some (.inr (2, [.ref 33, .int (I 32 1)])) := rfl
theorem hx_33 : (HX I A J B F)[33]? = some (.inl (0, 60, .inl (A 33))) := rfl
theorem hx_34 : (HX I A J B F)[34]? = some (.inr (2, [.ref 35, .int (I 34 1)])) := rfl
theorem hx_35 : (HX I A J B F)[35]? = some (.inl (0, 60, .inl (A 35))) := rfl
theorem hx_36 : (HX I A J B F)[36]? = some (.inr (2, [.ref 37, .int (I 36 1)])) := rfl
theorem hx_37 : (HX I A J B F)[37]? = some (.inl (0, 60, .inl (A 37))) := rfl
theorem hx_38 : (HX I A J B F)[38]? = some (.inr (2, [.ref 39, .int (I 38 1)])) := rfl
theorem hx_39 : (HX I A J B F)[39]? = some (.inl (0, 60, .inl (A 39))) := rfl
theorem hx_40 : (HX I A J B F)[40]? = some (.inr (1, [.int (I 40 0), .int (I 40 1), .int (I 40 2), .int (I 40 3)])) := rfl
theorem hx_41 : (HX I A J B F)[41]? = some (.inr (1, [.int (I 41 0), .int (I 41 1), .int (I 41 2), .int (I 41 3)])) := rfl
theorem hx_42 : (HX I A J B F)[42]? = some (.inr (1, [.int (I 42 0), .int (I 42 1), .int (I 42 2), .int (I 42 3)])) := rfl
theorem hx_43 : (HX I A J B F)[43]? = some (.inr (1, [.int (I 43 0), .int (I 43 1), .int (I 43 2), .int (I 43 3)])) := rfl
theorem hx_44 : (HX I A J B F)[44]? = some (.inr (1, [.int (I 44 0), .int (I 44 1), .int (I 44 2), .int (I 44 3)])) := rfl
theorem hx_45 : (HX I A J B F)[45]? = some (.inr (3, [.ref 46, .int (I 45 1), .int (I 45 2), .int (I 45 3), .int (I 45 4)])) := rfl
theorem hx_46 : (HX I A J B F)[46]? = some (.inl (0, 40, .inl (A 46))) := rfl
theorem hx_47 : (HX I A J B F)[47]? = some (.inr (3, [.ref 48, .int (I 47 1), .int (I 47 2), .int (I 47 3), .int (I 47 4)])) := rfl
theorem hx_48 : (HX I A J B F)[48]? = some (.inl (0, 40, .inl (A 48))) := rfl
theorem hx_49 : (HX I A J B F)[49]? = some (.inr (3, [.ref 50, .int (I 49 1), .int (I 49 2), .int (I 49 3), .int (I 49 4)])) := rfl
theorem hx_50 : (HX I A J B F)[50]? = some (.inl (0, 40, .inl (A 50))) := rfl
theorem hx_51 : (HX I A J B F)[51]? = some (.inr (9, [.ref 52, .int (I 51 1), .int (I 51 2), .int (I 51 3), .ref 53, .ref 54, .ref 55, .ref 56, .ref 57, .ref 58, .ref 59, .ref 60, .int (I 51 12), .long (J 51 13), .long (J 51 14), .int (I 51 15), .ref 61, .int (I 51 17), .int (I 51 18), .int (I 51 19), .int (I 51 20), .int (I 51 21), .ref 62, .int (I 51 23), .ref 63, .ref 64, .ref 65, .ref 66, .ref 67, .ref 68, .ref 69, .int (I 51 31), .int (I 51 32)])) := rfl
theorem hx_52 : (HX I A J B F)[52]? = some (.inl (0, 496, .inl (A 52))) := rfl
theorem hx_53 : (HX I A J B F)[53]? = some (.inl (0, 5, .inl (A 53))) := rfl
theorem hx_54 : (HX I A J B F)[54]? = some (.inl (0, 5, .inl (A 54))) := rfl
theorem hx_55 : (HX I A J B F)[55]? = some (.inl (0, 5, .inl (A 55))) := rfl
theorem hx_56 : (HX I A J B F)[56]? = some (.inl (0, 5, .inl (A 56))) := rfl
theorem hx_57 : (HX I A J B F)[57]? = some (.inl (0, 6, .inl (A 57))) := rfl
theorem hx_58 : (HX I A J B F)[58]? = some (.inl (0, 240, .inl (A 58))) := rfl
theorem hx_59 : (HX I A J B F)[59]? = some (.inl (0, 4, .inl (A 59))) := rfl
theorem hx_60 : (HX I A J B F)[60]? = some (.inl (0, 240, .inl (A 60))) := rfl
theorem hx_61 : (HX I A J B F)[61]? = some (.inl (0, 6, .inl (A 61))) := rfl
theorem hx_62 : (HX I A J B F)[62]? = some (.inl (0, 20, .inl (A 62))) := rfl
theorem hx_63 : (HX I A J B F)[63]? = some (.inl (0, 216, .inl (A 63))) := rfl
theorem hx_64 : (HX I A J B F)[64]? = some (.inl (0, 312, .inl (A 64))) := rfl
theorem hx_65 : (HX I A J B F)[65]? = some (.inl (0, 984, .inl (A 65))) := rfl
theorem hx_66 : (HX I A J B F)[66]? = some (.inl (0, 984, .inl (A 66))) := rfl
theorem hx_67 : (HX I A J B F)[67]? = some (.inl (0, 5, .inl (A 67))) := rfl
theorem hx_68 : (HX I A J B F)[68]? = some (.inl (0, 72, .inl (A 68))) := rfl
theorem hx_69 : (HX I A J B F)[69]? = some (.inl (0, 72, .inl (A 69))) := rfl
theorem hs_0_12 (v : Int32) : (HX I A J B F).set 0 (.inr (8, [.ref 1, .ref 2, .ref 3, .ref 5, .ref 6, .ref 7, .ref 8, .ref 10, .ref 11, .ref 13, .ref 16, .ref 19, .int v, .int (I 0 13), .int (I 0 14), .long (J 0 15), .long (J 0 16)])) = HX (u2 I 0 12 v) A J B F := rfl
theorem hs_0_13 (v : Int32) : (HX I A J B F).set 0 (.inr (8, [.ref 1, .ref 2, .ref 3, .ref 5, .ref 6, .ref 7, .ref 8, .ref 10, .ref 11, .ref 13, .ref 16, .ref 19, .int (I 0 12), .int v, .int (I 0 14), .long (J 0 15), .long (J 0 16)])) = HX (u2 I 0 13 v) A J B F := rfl
theorem hs_0_14 (v : Int32) : (HX I A J B F).set 0 (.inr (8, [.ref 1, .ref 2, .ref 3, .ref 5, .ref 6, .ref 7, .ref 8, .ref 10, .ref 11, .ref 13, .ref 16, .ref 19, .int (I 0 12), .int (I 0 13), .int v, .long (J 0 15), .long (J 0 16)])) = HX (u2 I 0 14 v) A J B F := rfl
theorem hs_0_15 (v : Int64) : (HX I A J B F).set 0 (.inr (8, [.ref 1, .ref 2, .ref 3, .ref 5, .ref 6, .ref 7, .ref 8, .ref 10, .ref 11, .ref 13, .ref 16, .ref 19, .int (I 0 12), .int (I 0 13), .int (I 0 14), .long v, .long (J 0 16)])) = HX I A (uj J 0 15 v) B F := rfl
theorem hs_0_16 (v : Int64) : (HX I A J B F).set 0 (.inr (8, [.ref 1, .ref 2, .ref 3, .ref 5, .ref 6, .ref 7, .ref 8, .ref 10, .ref 11, .ref 13, .ref 16, .ref 19, .int (I 0 12), .int (I 0 13), .int (I 0 14), .long (J 0 15), .long v])) = HX I A (uj J 0 16 v) B F := rfl
theorem hs_3_1 (v : Int32) : (HX I A J B F).set 3 (.inr (4, [.ref 4, .int v, .int (I 3 2), .int (I 3 3), .int (I 3 4), .int (I 3 5)])) = HX (u2 I 3 1 v) A J B F := rfl
theorem hs_3_2 (v : Int32) : (HX I A J B F).set 3 (.inr (4, [.ref 4, .int (I 3 1), .int v, .int (I 3 3), .int (I 3 4), .int (I 3 5)])) = HX (u2 I 3 2 v) A J B F := rfl
theorem hs_3_3 (v : Int32) : (HX I A J B F).set 3 (.inr (4, [.ref 4, .int (I 3 1), .int (I 3 2), .int v, .int (I 3 4), .int (I 3 5)])) = HX (u2 I 3 3 v) A J B F := rfl
theorem hs_3_4 (v : Int32) : (HX I A J B F).set 3 (.inr (4, [.ref 4, .int (I 3 1), .int (I 3 2), .int (I 3 3), .int v, .int (I 3 5)])) = HX (u2 I 3 4 v) A J B F := rfl
theorem hs_3_5 (v : Int32) : (HX I A J B F).set 3 (.inr (4, [.ref 4, .int (I 3 1), .int (I 3 2), .int (I 3 3), .int (I 3 4), .int v])) = HX (u2 I 3 5 v) A J B F := rfl
theorem hs_6_0 (v : Int32) : (HX I A J B F).set 6 (.inr (1, [.int v, .int (I 6 1), .int (I 6 2), .int (I 6 3)])) = HX (u2 I 6 0 v) A J B F := rfl
theorem hs_6_1 (v : Int32) : (HX I A J B F).set 6 (.inr (1, [.int (I 6 0), .int v, .int (I 6 2), .int (I 6 3)])) = HX (u2 I 6 1 v) A J B F := rfl
theorem hs_6_2 (v : Int32) : (HX I A J B F).set 6 (.inr (1, [.int (I 6 0), .int (I 6 1), .int v, .int (I 6 3)])) = HX (u2 I 6 2 v) A J B F := rfl
theorem hs_6_3 (v : Int32) : (HX I A J B F).set 6 (.inr (1, [.int (I 6 0), .int (I 6 1), .int (I 6 2), .int v])) = HX (u2 I 6 3 v) A J B F := rfl
theorem hf_6 (v0 v1 v2 v3 : Int32) : (HX I A J B F).set 6 (.inr (1, [.int v0, .int v1, .int v2, .int v3])) = HX (u2 (u2 (u2 (u2 I 6 0 v0) 6 1 v1) 6 2 v2) 6 3 v3) A J B F := rfl
theorem hs_7_0 (v : Int32) : (HX I A J B F).set 7 (.inr (6, [.int v, .int (I 7 1)])) = HX (u2 I 7 0 v) A J B F := rfl
theorem hs_7_1 (v : Int32) : (HX I A J B F).set 7 (.inr (6, [.int (I 7 0), .int v])) = HX (u2 I 7 1 v) A J B F := rfl
theorem hf_7 (v0 v1 : Int32) : (HX I A J B F).set 7 (.inr (6, [.int v0, .int v1])) = HX (u2 (u2 I 7 0 v0) 7 1 v1) A J B F := rfl
theorem hs_8_1 (v : Int32) : (HX I A J B F).set 8 (.inr (3, [.ref 9, .int v, .int (I 8 2), .int (I 8 3), .int (I 8 4)])) = HX (u2 I 8 1 v) A J B F := rfl
theorem hs_8_2 (v : Int32) : (HX I A J B F).set 8 (.inr (3, [.ref 9, .int (I 8 1), .int v, .int (I 8 3), .int (I 8 4)])) = HX (u2 I 8 2 v) A J B F := rfl
theorem hs_8_3 (v : Int32) : (HX I A J B F).set 8 (.inr (3, [.ref 9, .int (I 8 1), .int (I 8 2), .int v, .int (I 8 4)])) = HX (u2 I 8 3 v) A J B F := rfl
theorem hs_8_4 (v : Int32) : (HX I A J B F).set 8 (.inr (3, [.ref 9, .int (I 8 1), .int (I 8 2), .int (I 8 3), .int v])) = HX (u2 I 8 4 v) A J B F := rfl
theorem hf_8 (v1 v2 v3 v4 : Int32) : (HX I A J B F).set 8 (.inr (3, [.ref 9, .int v1, .int v2, .int v3, .int v4])) = HX (u2 (u2 (u2 (u2 I 8 1 v1) 8 2 v2) 8 3 v3) 8 4 v4) A J B F := rfl
theorem hs_16_3 (v : Int64) : (HX I A J B F).set 16 (.inr (5, [.ref 11, .ref (F 2), .ref (F 3), .long v])) = HX I A (uj J 16 3 v) B F := rfl
theorem hs_20_1 (v : Int32) : (HX I A J B F).set 20 (.inr (2, [.ref 21, .int v])) = HX (u2 I 20 1 v) A J B F := rfl
theorem hs_22_1 (v : Int32) : (HX I A J B F).set 22 (.inr (2, [.ref 23, .int v])) = HX (u2 I 22 1 v) A J B F := rfl
theorem hs_24_1 (v : Int32) : (HX I A J B F).set 24 (.inr (2, [.ref 25, .int v])) = HX (u2 I 24 1 v) A J B F := rfl
theorem hs_26_1 (v : Int32) : (HX I A J B F).set 26 (.inr (2, [.ref 27, .int v])) = HX (u2 I 26 1 v) A J B F := rfl
theorem hs_28_1 (v : Int32) : (HX I A J B F).set 28 (.inr (2, [.ref 29, .int v])) = HX (u2 I 28 1 v) A J B F := rfl
theorem hs_30_1 (v : Int32) : (HX I A J B F).set 30 (.inr (2, [.ref 31, .int v])) = HX (u2 I 30 1 v) A J B F := rfl
theorem hs_32_1 (v : Int32) : (HX I A J B F).set 32 (.inr (2, [.ref 33, .int v])) = HX (u2 I 32 1 v) A J B F := rfl
theorem hs_34_1 (v : Int32) : (HX I A J B F).set 34 (.inr (2, [.ref 35, .int v])) = HX (u2 I 34 1 v) A J B F := rfl
theorem hs_36_1 (v : Int32) : (HX I A J B F).set 36 (.inr (2, [.ref 37, .int v])) = HX (u2 I 36 1 v) A J B F := rfl
theorem hs_38_1 (v : Int32) : (HX I A J B F).set 38 (.inr (2, [.ref 39, .int v])) = HX (u2 I 38 1 v) A J B F := rfl
theorem hs_40_0 (v : Int32) : (HX I A J B F).set 40 (.inr (1, [.int v, .int (I 40 1), .int (I 40 2), .int (I 40 3)])) = HX (u2 I 40 0 v) A J B F := rfl
theorem hs_40_1 (v : Int32) : (HX I A J B F).set 40 (.inr (1, [.int (I 40 0), .int v, .int (I 40 2), .int (I 40 3)])) = HX (u2 I 40 1 v) A J B F := rfl
theorem hs_40_2 (v : Int32) : (HX I A J B F).set 40 (.inr (1, [.int (I 40 0), .int (I 40 1), .int v, .int (I 40 3)])) = HX (u2 I 40 2 v) A J B F := rfl
theorem hs_40_3 (v : Int32) : (HX I A J B F).set 40 (.inr (1, [.int (I 40 0), .int (I 40 1), .int (I 40 2), .int v])) = HX (u2 I 40 3 v) A J B F := rfl
theorem hf_40 (v0 v1 v2 v3 : Int32) : (HX I A J B F).set 40 (.inr (1, [.int v0, .int v1, .int v2, .int v3])) = HX (u2 (u2 (u2 (u2 I 40 0 v0) 40 1 v1) 40 2 v2) 40 3 v3) A J B F := rfl
theorem hs_41_0 (v : Int32) : (HX I A J B F).set 41 (.inr (1, [.int v, .int (I 41 1), .int (I 41 2), .int (I 41 3)])) = HX (u2 I 41 0 v) A J B F := rfl
theorem hs_41_1 (v : Int32) : (HX I A J B F).set 41 (.inr (1, [.int (I 41 0), .int v, .int (I 41 2), .int (I 41 3)])) = HX (u2 I 41 1 v) A J B F := rfl
theorem hs_41_2 (v : Int32) : (HX I A J B F).set 41 (.inr (1, [.int (I 41 0), .int (I 41 1), .int v, .int (I 41 3)])) = HX (u2 I 41 2 v) A J B F := rfl
theorem hs_41_3 (v : Int32) : (HX I A J B F).set 41 (.inr (1, [.int (I 41 0), .int (I 41 1), .int (I 41 2), .int v])) = HX (u2 I 41 3 v) A J B F := rfl
theorem hf_41 (v0 v1 v2 v3 : Int32) : (HX I A J B F).set 41 (.inr (1, [.int v0, .int v1, .int v2, .int v3])) = HX (u2 (u2 (u2 (u2 I 41 0 v0) 41 1 v1) 41 2 v2) 41 3 v3) A J B F := rfl
theorem hs_42_0 (v : Int32) : (HX I A J B F).set 42 (.inr (1, [.int v, .int (I 42 1), .int (I 42 2), .int (I 42 3)])) = HX (u2 I 42 0 v) A J B F := rfl
theorem hs_42_1 (v : Int32) : (HX I A J B F).set 42 (.inr (1, [.int (I 42 0), .int v, .int (I 42 2), .int (I 42 3)])) = HX (u2 I 42 1 v) A J B F := rfl
theorem hs_42_2 (v : Int32) : (HX I A J B F).set 42 (.inr (1, [.int (I 42 0), .int (I 42 1), .int v, .int (I 42 3)])) = HX (u2 I 42 2 v) A J B F := rfl
theorem hs_42_3 (v : Int32) : (HX I A J B F).set 42 (.inr (1, [.int (I 42 0), .int (I 42 1), .int (I 42 2), .int v])) = HX (u2 I 42 3 v) A J B F := rfl
theorem hf_42 (v0 v1 v2 v3 : Int32) : (HX I A J B F).set 42 (.inr (1, [.int v0, .int v1, .int v2, .int v3])) = HX (u2 (u2 (u2 (u2 I 42 0 v0) 42 1 v1) 42 2 v2) 42 3 v3) A J B F := rfl
theorem hs_43_0 (v : Int32) : (HX I A J B F).set 43 (.inr (1, [.int v, .int (I 43 1), .int (I 43 2), .int (I 43 3)])) = HX (u2 I 43 0 v) A J B F := rfl
theorem hs_43_1 (v : Int32) : (HX I A J B F).set 43 (.inr (1, [.int (I 43 0), .int v, .int (I 43 2), .int (I 43 3)])) = HX (u2 I 43 1 v) A J B F := rfl
theorem hs_43_2 (v : Int32) : (HX I A J B F).set 43 (.inr (1, [.int (I 43 0), .int (I 43 1), .int v, .int (I 43 3)])) = HX (u2 I 43 2 v) A J B F := rfl
theorem hs_43_3 (v : Int32) : (HX I A J B F).set 43 (.inr (1, [.int (I 43 0), .int (I 43 1), .int (I 43 2), .int v])) = HX (u2 I 43 3 v) A J B F := rfl
theorem hf_43 (v0 v1 v2 v3 : Int32) : (HX I A J B F).set 43 (.inr (1, [.int v0, .int v1, .int v2, .int v3])) = HX (u2 (u2 (u2 (u2 I 43 0 v0) 43 1 v1) 43 2 v2) 43 3 v3) A J B F := rfl
theorem hs_44_0 (v : Int32) : (HX I A J B F).set 44 (.inr (1, [.int v, .int (I 44 1), .int (I 44 2), .int (I 44 3)])) = HX (u2 I 44 0 v) A J B F := rfl
theorem hs_44_1 (v : Int32) : (HX I A J B F).set 44 (.inr (1, [.int (I 44 0), .int v, .int (I 44 2), .int (I 44 3)])) = HX (u2 I 44 1 v) A J B F := rfl
theorem hs_44_2 (v : Int32) : (HX I A J B F).set 44 (.inr (1, [.int (I 44 0), .int (I 44 1), .int v, .int (I 44 3)])) = HX (u2 I 44 2 v) A J B F := rfl
theorem hs_44_3 (v : Int32) : (HX I A J B F).set 44 (.inr (1, [.int (I 44 0), .int (I 44 1), .int (I 44 2), .int v])) = HX (u2 I 44 3 v) A J B F := rfl
theorem hf_44 (v0 v1 v2 v3 : Int32) : (HX I A J B F).set 44 (.inr (1, [.int v0, .int v1, .int v2, .int v3])) = HX (u2 (u2 (u2 (u2 I 44 0 v0) 44 1 v1) 44 2 v2) 44 3 v3) A J B F := rfl
theorem hs_45_1 (v : Int32) : (HX I A J B F).set 45 (.inr (3, [.ref 46, .int v, .int (I 45 2), .int (I 45 3), .int (I 45 4)])) = HX (u2 I 45 1 v) A J B F := rfl
theorem hs_45_2 (v : Int32) : (HX I A J B F).set 45 (.inr (3, [.ref 46, .int (I 45 1), .int v, .int (I 45 3), .int (I 45 4)])) = HX (u2 I 45 2 v) A J B F := rfl
theorem hs_45_3 (v : Int32) : (HX I A J B F).set 45 (.inr (3, [.ref 46, .int (I 45 1), .int (I 45 2), .int v, .int (I 45 4)])) = HX (u2 I 45 3 v) A J B F := rfl
theorem hs_45_4 (v : Int32) : (HX I A J B F).set 45 (.inr (3, [.ref 46, .int (I 45 1), .int (I 45 2), .int (I 45 3), .int v])) = HX (u2 I 45 4 v) A J B F := rfl
theorem hf_45 (v1 v2 v3 v4 : Int32) : (HX I A J B F).set 45 (.inr (3, [.ref 46, .int v1, .int v2, .int v3, .int v4])) = HX (u2 (u2 (u2 (u2 I 45 1 v1) 45 2 v2) 45 3 v3) 45 4 v4) A J B F := rfl
theorem hs_47_1 (v : Int32) : (HX I A J B F).set 47 (.inr (3, [.ref 48, .int v, .int (I 47 2), .int (I 47 3), .int (I 47 4)])) = HX (u2 I 47 1 v) A J B F := rfl
theorem hs_47_2 (v : Int32) : (HX I A J B F).set 47 (.inr (3, [.ref 48, .int (I 47 1), .int v, .int (I 47 3), .int (I 47 4)])) = HX (u2 I 47 2 v) A J B F := rfl
theorem hs_47_3 (v : Int32) : (HX I A J B F).set 47 (.inr (3, [.ref 48, .int (I 47 1), .int (I 47 2), .int v, .int (I 47 4)])) = HX (u2 I 47 3 v) A J B F := rfl
theorem hs_47_4 (v : Int32) : (HX I A J B F).set 47 (.inr (3, [.ref 48, .int (I 47 1), .int (I 47 2), .int (I 47 3), .int v])) = HX (u2 I 47 4 v) A J B F := rfl
theorem hf_47 (v1 v2 v3 v4 : Int32) : (HX I A J B F).set 47 (.inr (3, [.ref 48, .int v1, .int v2, .int v3, .int v4])) = HX (u2 (u2 (u2 (u2 I 47 1 v1) 47 2 v2) 47 3 v3) 47 4 v4) A J B F := rfl
theorem hs_49_1 (v : Int32) : (HX I A J B F).set 49 (.inr (3, [.ref 50, .int v, .int (I 49 2), .int (I 49 3), .int (I 49 4)])) = HX (u2 I 49 1 v) A J B F := rfl
theorem hs_49_2 (v : Int32) : (HX I A J B F).set 49 (.inr (3, [.ref 50, .int (I 49 1), .int v, .int (I 49 3), .int (I 49 4)])) = HX (u2 I 49 2 v) A J B F := rfl
theorem hs_49_3 (v : Int32) : (HX I A J B F).set 49 (.inr (3, [.ref 50, .int (I 49 1), .int (I 49 2), .int v, .int (I 49 4)])) = HX (u2 I 49 3 v) A J B F := rfl
theorem hs_49_4 (v : Int32) : (HX I A J B F).set 49 (.inr (3, [.ref 50, .int (I 49 1), .int (I 49 2), .int (I 49 3), .int v])) = HX (u2 I 49 4 v) A J B F := rfl
theorem hf_49 (v1 v2 v3 v4 : Int32) : (HX I A J B F).set 49 (.inr (3, [.ref 50, .int v1, .int v2, .int v3, .int v4])) = HX (u2 (u2 (u2 (u2 I 49 1 v1) 49 2 v2) 49 3 v3) 49 4 v4) A J B F := rfl
theorem hs_51_1 (v : Int32) : (HX I A J B F).set 51 (.inr (9, [.ref 52, .int v, .int (I 51 2), .int (I 51 3), .ref 53, .ref 54, .ref 55, .ref 56, .ref 57, .ref 58, .ref 59, .ref 60, .int (I 51 12), .long (J 51 13), .long (J 51 14), .int (I 51 15), .ref 61, .int (I 51 17), .int (I 51 18), .int (I 51 19), .int (I 51 20), .int (I 51 21), .ref 62, .int (I 51 23), .ref 63, .ref 64, .ref 65, .ref 66, .ref 67, .ref 68, .ref 69, .int (I 51 31), .int (I 51 32)])) = HX (u2 I 51 1 v) A J B F := rfl
theorem hs_51_2 (v : Int32) : (HX I A J B F).set 51 (.inr (9, [.ref 52, .int (I 51 1), .int v, .int (I 51 3), .ref 53, .ref 54, .ref 55, .ref 56, .ref 57, .ref 58, .ref 59, .ref 60, .int (I 51 12), .long (J 51 13), .long (J 51 14), .int (I 51 15), .ref 61, .int (I 51 17), .int (I 51 18), .int (I 51 19), .int (I 51 20), .int (I 51 21), .ref 62, .int (I 51 23), .ref 63, .ref 64, .ref 65, .ref 66, .ref 67, .ref 68, .ref 69, .int (I 51 31), .int (I 51 32)])) = HX (u2 I 51 2 v) A J B F := rfl
theorem hs_51_3 (v : Int32) : (HX I A J B F).set 51 (.inr (9, [.ref 52, .int (I 51 1), .int (I 51 2), .int v, .ref 53, .ref 54, .ref 55, .ref 56, .ref 57, .ref 58, .ref 59, .ref 60, .int (I 51 12), .long (J 51 13), .long (J 51 14), .int (I 51 15), .ref 61, .int (I 51 17), .int (I 51 18), .int (I 51 19), .int (I 51 20), .int (I 51 21), .ref 62, .int (I 51 23), .ref 63, .ref 64, .ref 65, .ref 66, .ref 67, .ref 68, .ref 69, .int (I 51 31), .int (I 51 32)])) = HX (u2 I 51 3 v) A J B F := rfl
theorem hs_51_12 (v : Int32) : (HX I A J B F).set 51 (.inr (9, [.ref 52, .int (I 51 1), .int (I 51 2), .int (I 51 3), .ref 53, .ref 54, .ref 55, .ref 56, .ref 57, .ref 58, .ref 59, .ref 60, .int v, .long (J 51 13), .long (J 51 14), .int (I 51 15), .ref 61, .int (I 51 17), .int (I 51 18), .int (I 51 19), .int (I 51 20), .int (I 51 21), .ref 62, .int (I 51 23), .ref 63, .ref 64, .ref 65, .ref 66, .ref 67, .ref 68, .ref 69, .int (I 51 31), .int (I 51 32)])) = HX (u2 I 51 12 v) A J B F := rfl
theorem hs_51_13 (v : Int64) : (HX I A J B F).set 51 (.inr (9, [.ref 52, .int (I 51 1), .int (I 51 2), .int (I 51 3), .ref 53, .ref 54, .ref 55, .ref 56, .ref 57, .ref 58, .ref 59, .ref 60, .int (I 51 12), .long v, .long (J 51 14), .int (I 51 15), .ref 61, .int (I 51 17), .int (I 51 18), .int (I 51 19), .int (I 51 20), .int (I 51 21), .ref 62, .int (I 51 23), .ref 63, .ref 64, .ref 65, .ref 66, .ref 67, .ref 68, .ref 69, .int (I 51 31), .int (I 51 32)])) = HX I A (uj J 51 13 v) B F := rfl
theorem hs_51_14 (v : Int64) : (HX I A J B F).set 51 (.inr (9, [.ref 52, .int (I 51 1), .int (I 51 2), .int (I 51 3), .ref 53, .ref 54, .ref 55, .ref 56, .ref 57, .ref 58, .ref 59, .ref 60, .int (I 51 12), .long (J 51 13), .long v, .int (I 51 15), .ref 61, .int (I 51 17), .int (I 51 18), .int (I 51 19), .int (I 51 20), .int (I 51 21), .ref 62, .int (I 51 23), .ref 63, .ref 64, .ref 65, .ref 66, .ref 67, .ref 68, .ref 69, .int (I 51 31), .int (I 51 32)])) = HX I A (uj J 51 14 v) B F := rfl
theorem hs_51_15 (v : Int32) : (HX I A J B F).set 51 (.inr (9, [.ref 52, .int (I 51 1), .int (I 51 2), .int (I 51 3), .ref 53, .ref 54, .ref 55, .ref 56, .ref 57, .ref 58, .ref 59, .ref 60, .int (I 51 12), .long (J 51 13), .long (J 51 14), .int v, .ref 61, .int (I 51 17), .int (I 51 18), .int (I 51 19), .int (I 51 20), .int (I 51 21), .ref 62, .int (I 51 23), .ref 63, .ref 64, .ref 65, .ref 66, .ref 67, .ref 68, .ref 69, .int (I 51 31), .int (I 51 32)])) = HX (u2 I 51 15 v) A J B F := rfl
theorem hs_51_17 (v : Int32) : (HX I A J B F).set 51 (.inr (9, [.ref 52, .int (I 51 1), .int (I 51 2), .int (I 51 3), .ref 53, .ref 54, .ref 55, .ref 56, .ref 57, .ref 58, .ref 59, .ref 60, .int (I 51 12), .long (J 51 13), .long (J 51 14), .int (I 51 15), .ref 61, .int v, .int (I 51 18), .int (I 51 19), .int (I 51 20), .int (I 51 21), .ref 62, .int (I 51 23), .ref 63, .ref 64, .ref 65, .ref 66, .ref 67, .ref 68, .ref 69, .int (I 51 31), .int (I 51 32)])) = HX (u2 I 51 17 v) A J B F := rfl
theorem hs_51_18 (v : Int32) : (HX I A J B F).set 51 (.inr (9, [.ref 52, .int (I 51 1), .int (I 51 2), .int (I 51 3), .ref 53, .ref 54, .ref 55, .ref 56, .ref 57, .ref 58, .ref 59, .ref 60, .int (I 51 12), .long (J 51 13), .long (J 51 14), .int (I 51 15), .ref 61, .int (I 51 17), .int v, .int (I 51 19), .int (I 51 20), .int (I 51 21), .ref 62, .int (I 51 23), .ref 63, .ref 64, .ref 65, .ref 66, .ref 67, .ref 68, .ref 69, .int (I 51 31), .int (I 51 32)])) = HX (u2 I 51 18 v) A J B F := rfl
theorem hs_51_19 (v : Int32) : (HX I A J B F).set 51 (.inr (9, [.ref 52, .int (I 51 1), .int (I 51 2), .int (I 51 3), .ref 53, .ref 54, .ref 55, .ref 56, .ref 57, .ref 58, .ref 59, .ref 60, .int (I 51 12), .long (J 51 13), .long (J 51 14), .int (I 51 15), .ref 61, .int (I 51 17), .int (I 51 18), .int v, .int (I 51 20), .int (I 51 21), .ref 62, .int (I 51 23), .ref 63, .ref 64, .ref 65, .ref 66, .ref 67, .ref 68, .ref 69, .int (I 51 31), .int (I 51 32)])) = HX (u2 I 51 19 v) A J B F := rfl
theorem hs_51_20 (v : Int32) : (HX I A J B F).set 51 (.inr (9, [.ref 52, .int (I 51 1), .int (I 51 2), .int (I 51 3), .ref 53, .ref 54, .ref 55, .ref 56, .ref 57, .ref 58, .ref 59, .ref 60, .int (I 51 12), .long (J 51 13), .long (J 51 14), .int (I 51 15), .ref 61, .int (I 51 17), .int (I 51 18), .int (I 51 19), .int v, .int (I 51 21), .ref 62, .int (I 51 23), .ref 63, .ref 64, .ref 65, .ref 66, .ref 67, .ref 68, .ref 69, .int (I 51 31), .int (I 51 32)])) = HX (u2 I 51 20 v) A J B F := rfl
theorem hs_51_21 (v : Int32) : (HX I A J B F).set 51 (.inr (9, [.ref 52, .int (I 51 1), .int (I 51 2), .int (I 51 3), .ref 53, .ref 54, .ref 55, .ref 56, .ref 57, .ref 58, .ref 59, .ref 60, .int (I 51 12), .long (J 51 13), .long (J 51 14), .int (I 51 15), .ref 61, .int (I 51 17), .int (I 51 18), .int (I 51 19), .int (I 51 20), .int v, .ref 62, .int (I 51 23), .ref 63, .ref 64, .ref 65, .ref 66, .ref 67, .ref 68, .ref 69, .int (I 51 31), .int (I 51 32)])) = HX (u2 I 51 21 v) A J B F := rfl
theorem hs_51_23 (v : Int32) : (HX I A J B F).set 51 (.inr (9, [.ref 52, .int (I 51 1), .int (I 51 2), .int (I 51 3), .ref 53, .ref 54, .ref 55, .ref 56, .ref 57, .ref 58, .ref 59, .ref 60, .int (I 51 12), .long (J 51 13), .long (J 51 14), .int (I 51 15), .ref 61, .int (I 51 17), .int (I 51 18), .int (I 51 19), .int (I 51 20), .int (I 51 21), .ref 62, .int v, .ref 63, .ref 64, .ref 65, .ref 66, .ref 67, .ref 68, .ref 69, .int (I 51 31), .int (I 51 32)])) = HX (u2 I 51 23 v) A J B F := rfl
theorem hs_51_31 (v : Int32) : (HX I A J B F).set 51 (.inr (9, [.ref 52, .int (I 51 1), .int (I 51 2), .int (I 51 3), .ref 53, .ref 54, .ref 55, .ref 56, .ref 57, .ref 58, .ref 59, .ref 60, .int (I 51 12), .long (J 51 13), .long (J 51 14), .int (I 51 15), .ref 61, .int (I 51 17), .int (I 51 18), .int (I 51 19), .int (I 51 20), .int (I 51 21), .ref 62, .int (I 51 23), .ref 63, .ref 64, .ref 65, .ref 66, .ref 67, .ref 68, .ref 69, .int v, .int (I 51 32)])) = HX (u2 I 51 31 v) A J B F := rfl
theorem hs_51_32 (v : Int32) : (HX I A J B F).set 51 (.inr (9, [.ref 52, .int (I 51 1), .int (I 51 2), .int (I 51 3), .ref 53, .ref 54, .ref 55, .ref 56, .ref 57, .ref 58, .ref 59, .ref 60, .int (I 51 12), .long (J 51 13), .long (J 51 14), .int (I 51 15), .ref 61, .int (I 51 17), .int (I 51 18), .int (I 51 19), .int (I 51 20), .int (I 51 21), .ref 62, .int (I 51 23), .ref 63, .ref 64, .ref 65, .ref 66, .ref 67, .ref 68, .ref 69, .int (I 51 31), .int v])) = HX (u2 I 51 32 v) A J B F := rfl
theorem ha_4 (f : Nat → Int32) : (HX I A J B F).set 4 (.inl (0, 20, .inl f)) = HX I (ua A 4 f) J B F := rfl
theorem ha_9 (f : Nat → Int32) : (HX I A J B F).set 9 (.inl (0, 40, .inl f)) = HX I (ua A 9 f) J B F := rfl
theorem ha_12 (f : Nat → Int32) : (HX I A J B F).set 12 (.inl (0, 192, .inl f)) = HX I (ua A 12 f) J B F := rfl
theorem ha_14 (f : Nat → Int32) : (HX I A J B F).set 14 (.inl (0, 984, .inl f)) = HX I (ua A 14 f) J B F := rfl
theorem ha_15 (f : Nat → Int32) : (HX I A J B F).set 15 (.inl (0, 984, .inl f)) = HX I (ua A 15 f) J B F := rfl
theorem ha_17 (f : Nat → Int64) : (HX I A J B F).set 17 (.inl (1, 24, .inr (.inl f))) = HX I A J (ub B 17 f) F := rfl
theorem ha_18 (f : Nat → Int64) : (HX I A J B F).set 18 (.inl (1, 24, .inr (.inl f))) = HX I A J (ub B 18 f) F := rfl
theorem ha_19 (f : Nat → Int32) : (HX I A J B F).set 19 (.inl (0, 6, .inl f)) = HX I (ua A 19 f) J B F := rfl
theorem ha_21 (f : Nat → Int32) : (HX I A J B F).set 21 (.inl (0, 40, .inl f)) = HX I (ua A 21 f) J B F := rfl
theorem ha_23 (f : Nat → Int32) : (HX I A J B F).set 23 (.inl (0, 40, .inl f)) = HX I (ua A 23 f) J B F := rfl
theorem ha_25 (f : Nat → Int32) : (HX I A J B F).set 25 (.inl (0, 40, .inl f)) = HX I (ua A 25 f) J B F := rfl
theorem ha_27 (f : Nat → Int32) : (HX I A J B F).set 27 (.inl (0, 40, .inl f)) = HX I (ua A 27 f) J B F := rfl
theorem ha_29 (f : Nat → Int32) : (HX I A J B F).set 29 (.inl (0, 40, .inl f)) = HX I (ua A 29 f) J B F := rfl
theorem ha_31 (f : Nat → Int32) : (HX I A J B F).set 31 (.inl (0, 40, .inl f)) = HX I (ua A 31 f) J B F := rfl
theorem ha_33 (f : Nat → Int32) : (HX I A J B F).set 33 (.inl (0, 60, .inl f)) = HX I (ua A 33 f) J B F := rfl
theorem ha_35 (f : Nat → Int32) : (HX I A J B F).set 35 (.inl (0, 60, .inl f)) = HX I (ua A 35 f) J B F := rfl
theorem ha_37 (f : Nat → Int32) : (HX I A J B F).set 37 (.inl (0, 60, .inl f)) = HX I (ua A 37 f) J B F := rfl
theorem ha_39 (f : Nat → Int32) : (HX I A J B F).set 39 (.inl (0, 60, .inl f)) = HX I (ua A 39 f) J B F := rfl
theorem ha_46 (f : Nat → Int32) : (HX I A J B F).set 46 (.inl (0, 40, .inl f)) = HX I (ua A 46 f) J B F := rfl
theorem ha_48 (f : Nat → Int32) : (HX I A J B F).set 48 (.inl (0, 40, .inl f)) = HX I (ua A 48 f) J B F := rfl
theorem ha_50 (f : Nat → Int32) : (HX I A J B F).set 50 (.inl (0, 40, .inl f)) = HX I (ua A 50 f) J B F := rfl
theorem ha_52 (f : Nat → Int32) : (HX I A J B F).set 52 (.inl (0, 496, .inl f)) = HX I (ua A 52 f) J B F := rfl
theorem ha_53 (f : Nat → Int32) : (HX I A J B F).set 53 (.inl (0, 5, .inl f)) = HX I (ua A 53 f) J B F := rfl
theorem ha_54 (f : Nat → Int32) : (HX I A J B F).set 54 (.inl (0, 5, .inl f)) = HX I (ua A 54 f) J B F := rfl
theorem ha_55 (f : Nat → Int32) : (HX I A J B F).set 55 (.inl (0, 5, .inl f)) = HX I (ua A 55 f) J B F := rfl
theorem ha_56 (f : Nat → Int32) : (HX I A J B F).set 56 (.inl (0, 5, .inl f)) = HX I (ua A 56 f) J B F := rfl
theorem ha_57 (f : Nat → Int32) : (HX I A J B F).set 57 (.inl (0, 6, .inl f)) = HX I (ua A 57 f) J B F := rfl
theorem ha_58 (f : Nat → Int32) : (HX I A J B F).set 58 (.inl (0, 240, .inl f)) = HX I (ua A 58 f) J B F := rfl
theorem ha_59 (f : Nat → Int32) : (HX I A J B F).set 59 (.inl (0, 4, .inl f)) = HX I (ua A 59 f) J B F := rfl
theorem ha_60 (f : Nat → Int32) : (HX I A J B F).set 60 (.inl (0, 240, .inl f)) = HX I (ua A 60 f) J B F := rfl
theorem ha_61 (f : Nat → Int32) : (HX I A J B F).set 61 (.inl (0, 6, .inl f)) = HX I (ua A 61 f) J B F := rfl
theorem ha_62 (f : Nat → Int32) : (HX I A J B F).set 62 (.inl (0, 20, .inl f)) = HX I (ua A 62 f) J B F := rfl
theorem ha_63 (f : Nat → Int32) : (HX I A J B F).set 63 (.inl (0, 216, .inl f)) = HX I (ua A 63 f) J B F := rfl
theorem ha_64 (f : Nat → Int32) : (HX I A J B F).set 64 (.inl (0, 312, .inl f)) = HX I (ua A 64 f) J B F := rfl
theorem ha_65 (f : Nat → Int32) : (HX I A J B F).set 65 (.inl (0, 984, .inl f)) = HX I (ua A 65 f) J B F := rfl
theorem ha_66 (f : Nat → Int32) : (HX I A J B F).set 66 (.inl (0, 984, .inl f)) = HX I (ua A 66 f) J B F := rfl
theorem ha_67 (f : Nat → Int32) : (HX I A J B F).set 67 (.inl (0, 5, .inl f)) = HX I (ua A 67 f) J B F := rfl
theorem ha_68 (f : Nat → Int32) : (HX I A J B F).set 68 (.inl (0, 72, .inl f)) = HX I (ua A 68 f) J B F := rfl
theorem ha_69 (f : Nat → Int32) : (HX I A J B F).set 69 (.inl (0, 72, .inl f)) = HX I (ua A 69 f) J B F := rfl
theorem hx_row (k : Nat) (hk : k < 6) : (HX I A J B F)[20 + 2 * k]? = some (.inr (2, [.ref (21 + 2 * k), .int (I (20 + 2 * k) 1)])) := by
  rcases (show k = 0 ∨ k = 1 ∨ k = 2 ∨ k = 3 ∨ k = 4 ∨ k = 5 by omega) with rfl | rfl | rfl | rfl | rfl | rfl <;> rfl
theorem hx_rowc (k : Nat) (hk : k < 6) : (HX I A J B F)[21 + 2 * k]? = some (.inl (0, 40, .inl (A (21 + 2 * k)))) := by
  rcases (show k = 0 ∨ k = 1 ∨ k = 2 ∨ k = 3 ∨ k = 4 ∨ k = 5 by omega) with rfl | rfl | rfl | rfl | rfl | rfl <;> rfl
theorem hs_row (k : Nat) (hk : k < 6) (v : Int32) : (HX I A J B F).set (20 + 2 * k) (.inr (2, [.ref (21 + 2 * k), .int v])) = HX (u2 I (20 + 2 * k) 1 v) A J B F := by
  rcases (show k = 0 ∨ k = 1 ∨ k = 2 ∨ k = 3 ∨ k = 4 ∨ k = 5 by omega) with rfl | rfl | rfl | rfl | rfl | rfl <;> rfl
theorem ha_row (k : Nat) (hk : k < 6) (f : Nat → Int32) : (HX I A J B F).set (21 + 2 * k) (.inl (0, 40, .inl f)) = HX I (ua A (21 + 2 * k) f) J B F := by
  rcases (show k = 0 ∨ k = 1 ∨ k = 2 ∨ k = 3 ∨ k = 4 ∨ k = 5 by omega) with rfl | rfl | rfl | rfl | rfl | rfl <;> rfl
theorem hx_txt (k : Nat) (hk : k < 4) : (HX I A J B F)[32 + 2 * k]? = some (.inr (2, [.ref (33 + 2 * k), .int (I (32 + 2 * k) 1)])) := by
  rcases (show k = 0 ∨ k = 1 ∨ k = 2 ∨ k = 3 by omega) with rfl | rfl | rfl | rfl <;> rfl
theorem hx_txtc (k : Nat) (hk : k < 4) : (HX I A J B F)[33 + 2 * k]? = some (.inl (0, 60, .inl (A (33 + 2 * k)))) := by
  rcases (show k = 0 ∨ k = 1 ∨ k = 2 ∨ k = 3 by omega) with rfl | rfl | rfl | rfl <;> rfl
theorem hs_txt (k : Nat) (hk : k < 4) (v : Int32) : (HX I A J B F).set (32 + 2 * k) (.inr (2, [.ref (33 + 2 * k), .int v])) = HX (u2 I (32 + 2 * k) 1 v) A J B F := by
  rcases (show k = 0 ∨ k = 1 ∨ k = 2 ∨ k = 3 by omega) with rfl | rfl | rfl | rfl <;> rfl
theorem ha_txt (k : Nat) (hk : k < 4) (f : Nat → Int32) : (HX I A J B F).set (33 + 2 * k) (.inl (0, 60, .inl f)) = HX I (ua A (33 + 2 * k) f) J B F := by
  rcases (show k = 0 ∨ k = 1 ∨ k = 2 ∨ k = 3 by omega) with rfl | rfl | rfl | rfl <;> rfl
theorem hx_light (k : Nat) (hk : k < 5) : (HX I A J B F)[40 + k]? = some (.inr (1, [.int (I (40 + k) 0), .int (I (40 + k) 1), .int (I (40 + k) 2), .int (I (40 + k) 3)])) := by
  rcases (show k = 0 ∨ k = 1 ∨ k = 2 ∨ k = 3 ∨ k = 4 by omega) with rfl | rfl | rfl | rfl | rfl <;> rfl
theorem hf_light (k : Nat) (hk : k < 5) (v0 v1 v2 v3 : Int32) : (HX I A J B F).set (40 + k) (.inr (1, [.int v0, .int v1, .int v2, .int v3])) = HX (u2 (u2 (u2 (u2 I (40 + k) 0 v0) (40 + k) 1 v1) (40 + k) 2 v2) (40 + k) 3 v3) A J B F := by
  rcases (show k = 0 ∨ k = 1 ∨ k = 2 ∨ k = 3 ∨ k = 4 by omega) with rfl | rfl | rfl | rfl | rfl <;> rfl
theorem hx_kept (k : Nat) (hk : k < 3) : (HX I A J B F)[45 + 2 * k]? = some (.inr (3, [.ref (46 + 2 * k), .int (I (45 + 2 * k) 1), .int (I (45 + 2 * k) 2), .int (I (45 + 2 * k) 3), .int (I (45 + 2 * k) 4)])) := by
  rcases (show k = 0 ∨ k = 1 ∨ k = 2 by omega) with rfl | rfl | rfl <;> rfl
theorem hx_keptc (k : Nat) (hk : k < 3) : (HX I A J B F)[46 + 2 * k]? = some (.inl (0, 40, .inl (A (46 + 2 * k)))) := by
  rcases (show k = 0 ∨ k = 1 ∨ k = 2 by omega) with rfl | rfl | rfl <;> rfl
theorem hf_kept (k : Nat) (hk : k < 3) (v1 v2 v3 v4 : Int32) : (HX I A J B F).set (45 + 2 * k) (.inr (3, [.ref (46 + 2 * k), .int v1, .int v2, .int v3, .int v4])) = HX (u2 (u2 (u2 (u2 I (45 + 2 * k) 1 v1) (45 + 2 * k) 2 v2) (45 + 2 * k) 3 v3) (45 + 2 * k) 4 v4) A J B F := by
  rcases (show k = 0 ∨ k = 1 ∨ k = 2 by omega) with rfl | rfl | rfl <;> rfl
theorem ha_kept (k : Nat) (hk : k < 3) (f : Nat → Int32) : (HX I A J B F).set (46 + 2 * k) (.inl (0, 40, .inl f)) = HX I (ua A (46 + 2 * k) f) J B F := by
  rcases (show k = 0 ∨ k = 1 ∨ k = 2 by omega) with rfl | rfl | rfl <;> rfl
theorem xr1_at (k : Nat) (hk : k < 6) : xr1 k = some (20 + 2 * k) := by
  rcases (show k = 0 ∨ k = 1 ∨ k = 2 ∨ k = 3 ∨ k = 4 ∨ k = 5 by omega) with rfl | rfl | rfl | rfl | rfl | rfl <;> rfl
theorem xr2_at (k : Nat) (hk : k < 4) : xr2 k = some (32 + 2 * k) := by
  rcases (show k = 0 ∨ k = 1 ∨ k = 2 ∨ k = 3 by omega) with rfl | rfl | rfl | rfl <;> rfl
theorem xr5_at (k : Nat) (hk : k < 5) : xr5 k = some (40 + k) := by
  rcases (show k = 0 ∨ k = 1 ∨ k = 2 ∨ k = 3 ∨ k = 4 by omega) with rfl | rfl | rfl | rfl | rfl <;> rfl
theorem xr10_at (k : Nat) (hk : k < 3) : xr10 k = some (45 + 2 * k) := by
  rcases (show k = 0 ∨ k = 1 ∨ k = 2 by omega) with rfl | rfl | rfl <;> rfl
end HXs
end
section
/-! DomeSlit, what its calls share, over HX -/
theorem q_heap {X : XX} {d : Nat} {M : XM} {pc : Nat} {L : XL} {st : List Value} {h h2 : XH} {P : Option Value → XH → Prop} (e : h = h2) (k : Wp X xT d M pc L st h2 P) : Wp X xT d M pc L st h P := e ▸ k
theorem q_cnv {X : XX} {d : Nat} {M : XM} {pc pc2 : Nat} {L L2 : XL} {st st2 : List Value} {h h2 : XH} {P : Option Value → XH → Prop} (k : Wp X xT d M pc2 L2 st2 h2 P) (e1 : pc = pc2) (e2 : L = L2) (e3 : st = st2) (e4 : h = h2) : Wp X xT d M pc L st h P := by
  subst e1; subst e2; subst e3; subst e4; exact k
def f_cnt (A : Nat → Nat → Int32) (a n : Nat) : Nat → Nat → Int32 := ua A a (upd (A a) n (A a n + 1))
theorem sX8_found {X : XX} {I A : Nat → Nat → Int32} {J B : Nat → Nat → Int64} {F : Nat → Nat} (n : Nat) (hn : n < 6) : x_ev X xT 1 128 [.ref 0, .int (nI n)] (HX I A J B F) (some (.int (-3))) (HX (u2 I 0 13 (nI n)) (f_cnt A 19 n) J B F) := by
  refine q_ev (L := [some (.ref 0), some (.int (nI n))]) tX8_found (Nat.le_of_ble_eq_true rfl) rfl ?_
  refine q_aload_n rfl rfl ?_
  refine q_iload_n rfl rfl ?_
  refine q_putfield rfl hx_0 rfl (Nat.le_of_ble_eq_true rfl) (rfl) (by decide +kernel) ?_
  refine q_heap (hs_0_13 _) ?_
  refine q_iload_n rfl rfl ?_
  refine q_if_lt rfl (fun hc6 => ?_) (fun hc6 => ?_)
  · exact absurd hc6 (nI_pos (by omega))
  · refine q_iload_n rfl rfl ?_
    refine q_aload_n rfl rfl ?_
    refine q_getfield rfl hx_0 rfl ?_
    refine q_alen rfl (by first | assumption | decide | omega) hx_19 (by decide) rfl ?_
    refine q_icmp_ge rfl (fun hc15 => ?_) (fun hc15 => ?_)
    · exact absurd hc15 (nI_nge (a := n) (b := 6) hn (by omega))
    · refine q_aload_n rfl rfl ?_
      refine q_getfield rfl hx_0 rfl ?_
      refine q_iload_n rfl rfl ?_
      refine q_dup2 rfl ?_
      refine q_iaload rfl (by first | assumption | decide | omega) hx_19 (f_ixk hn (by omega)) ?_
      refine q_iconst (v := 1) rfl rfl ?_
      refine q_iadd rfl ?_
      refine q_iastore rfl hx_19 (f_ixk hn (by omega)) ?_
      refine q_heap (ha_19 _) ?_
      refine q_bipush (v := (-3)) rfl rfl ?_
      refine q_iret rfl rfl ?_
      exact ⟨rfl, by rw [nI_clamp (show n < 2 ^ 31 by omega)]; rfl⟩
theorem sX8_isTooFar {X : XX} {I A : Nat → Nat → Int32} {J B : Nat → Nat → Int64} {F : Nat → Nat} (x : Int32) : x_ev X xT 1 124 [.int x] (HX I A J B F) (some (.int (if x < 0 then 1 else if x ≤ 99 then 0 else 1))) (HX I A J B F) := by
  refine q_ev (L := [some (.int x)]) tX8_isTooFar (Nat.le_of_ble_eq_true rfl) rfl ?_
  refine q_iload_n rfl rfl ?_
  refine q_if_lt rfl (fun hc1 => ?_) (fun hc1 => ?_)
  · refine q_iconst (v := 1) rfl rfl ?_
    refine q_goto rfl ?_
    refine q_zret rfl rfl (by decide) ?_
    exact ⟨by simp [*], rfl⟩
  · refine q_iload_n rfl rfl ?_
    refine q_bipush (v := 99) rfl rfl ?_
    refine q_icmp_le rfl (fun hc7 => ?_) (fun hc7 => ?_)
    · refine q_iconst (v := 0) rfl rfl ?_
      refine q_zret rfl rfl (by decide) ?_
      exact ⟨by simp [*], rfl⟩
    · refine q_iconst (v := 1) rfl rfl ?_
      refine q_goto rfl ?_
      refine q_zret rfl rfl (by decide) ?_
      exact ⟨by simp [*], rfl⟩
theorem sX8_isNoFollowing {X : XX} {I A : Nat → Nat → Int32} {J B : Nat → Nat → Int64} {F : Nat → Nat} (x : Int32) : x_ev X xT 1 125 [.int x] (HX I A J B F) (some (.int (if x < 1 then 1 else if x ≤ 8 then 0 else 1))) (HX I A J B F) := by
  refine q_ev (L := [some (.int x)]) tX8_isNoFollowing (Nat.le_of_ble_eq_true rfl) rfl ?_
  refine q_iload_n rfl rfl ?_
  refine q_iconst (v := 1) rfl rfl ?_
  refine q_icmp_lt rfl (fun hc2 => ?_) (fun hc2 => ?_)
  · refine q_iconst (v := 1) rfl rfl ?_
    refine q_goto rfl ?_
    refine q_zret rfl rfl (by decide) ?_
    exact ⟨by simp [*], rfl⟩
  · refine q_iload_n rfl rfl ?_
    refine q_bipush (v := 8) rfl rfl ?_
    refine q_icmp_le rfl (fun hc8 => ?_) (fun hc8 => ?_)
    · refine q_iconst (v := 0) rfl rfl ?_
      refine q_zret rfl rfl (by decide) ?_
      exact ⟨by simp [*], rfl⟩
    · refine q_iconst (v := 1) rfl rfl ?_
      refine q_goto rfl ?_
      refine q_zret rfl rfl (by decide) ?_
      exact ⟨by simp [*], rfl⟩
theorem sX8_lineAt_row {X : XX} {I A : Nat → Nat → Int32} {J B : Nat → Nat → Int64} {F : Nat → Nat} (k : Nat) (hk : k < 6) : x_ev X xT 1 126 [.ref 1, .int (nI k)] (HX I A J B F) (some (.ref (20 + 2 * k))) (HX I A J B F) := by
  refine q_ev (L := [some (.ref 1), some (.int (nI k))]) tX8_lineAt (Nat.le_of_ble_eq_true rfl) rfl ?_
  refine q_iload_n rfl rfl ?_
  refine q_if_lt rfl (fun hc1 => ?_) (fun hc1 => ?_)
  · exact absurd hc1 (nI_pos (by omega))
  · refine q_iload_n rfl rfl ?_
    refine q_aload_n rfl rfl ?_
    refine q_alen rfl (by decide) hx_1 (by decide) rfl ?_
    refine q_icmp_ge rfl (fun hc7 => ?_) (fun hc7 => ?_)
    · exact absurd hc7 (nI_nge (a := k) (b := 6) hk (by omega))
    · refine q_aload_n rfl rfl ?_
      refine q_iload_n rfl rfl ?_
      refine q_aaload rfl hx_1 (f_ixk hk (by omega)) rfl (by rw [nI_clamp (show k < 2 ^ 31 by omega)]; exact xr1_at k hk) ?_
      refine q_goto rfl ?_
      refine q_aret rfl rfl ?_
      exact ⟨rfl, rfl⟩
theorem sX8_lineAt_rowN {X : XX} {I A : Nat → Nat → Int32} {J B : Nat → Nat → Int64} {F : Nat → Nat} (x : Int32) (hx : x < 0 ∨ 6 ≤ x) : x_ev X xT 1 126 [.ref 1, .int x] (HX I A J B F) (some (.null)) (HX I A J B F) := by
  refine q_ev (L := [some (.ref 1), some (.int x)]) tX8_lineAt (Nat.le_of_ble_eq_true rfl) rfl ?_
  refine q_iload_n rfl rfl ?_
  refine q_if_lt rfl (fun hc1 => ?_) (fun hc1 => ?_)
  · refine q_aconst_null rfl ?_
    refine q_aretN rfl rfl ?_
    exact ⟨rfl, rfl⟩
  · refine q_iload_n rfl rfl ?_
    refine q_aload_n rfl rfl ?_
    refine q_alen rfl (by decide) hx_1 (by decide) rfl ?_
    refine q_icmp_ge rfl (fun hc7 => ?_) (fun hc7 => ?_)
    · refine q_aconst_null rfl ?_
      refine q_aretN rfl rfl ?_
      exact ⟨rfl, rfl⟩
    · exact absurd (hx.resolve_left hc1) hc7
theorem sX8_lineAt_txt {X : XX} {I A : Nat → Nat → Int32} {J B : Nat → Nat → Int64} {F : Nat → Nat} (k : Nat) (hk : k < 4) : x_ev X xT 1 126 [.ref 2, .int (nI k)] (HX I A J B F) (some (.ref (32 + 2 * k))) (HX I A J B F) := by
  refine q_ev (L := [some (.ref 2), some (.int (nI k))]) tX8_lineAt (Nat.le_of_ble_eq_true rfl) rfl ?_
  refine q_iload_n rfl rfl ?_
  refine q_if_lt rfl (fun hc1 => ?_) (fun hc1 => ?_)
  · exact absurd hc1 (nI_pos (by omega))
  · refine q_iload_n rfl rfl ?_
    refine q_aload_n rfl rfl ?_
    refine q_alen rfl (by decide) hx_2 (by decide) rfl ?_
    refine q_icmp_ge rfl (fun hc7 => ?_) (fun hc7 => ?_)
    · exact absurd hc7 (nI_nge (a := k) (b := 4) hk (by omega))
    · refine q_aload_n rfl rfl ?_
      refine q_iload_n rfl rfl ?_
      refine q_aaload rfl hx_2 (f_ixk hk (by omega)) rfl (by rw [nI_clamp (show k < 2 ^ 31 by omega)]; exact xr2_at k hk) ?_
      refine q_goto rfl ?_
      refine q_aret rfl rfl ?_
      exact ⟨rfl, rfl⟩
theorem sX8_lineAt_txtN {X : XX} {I A : Nat → Nat → Int32} {J B : Nat → Nat → Int64} {F : Nat → Nat} (x : Int32) (hx : x < 0 ∨ 4 ≤ x) : x_ev X xT 1 126 [.ref 2, .int x] (HX I A J B F) (some (.null)) (HX I A J B F) := by
  refine q_ev (L := [some (.ref 2), some (.int x)]) tX8_lineAt (Nat.le_of_ble_eq_true rfl) rfl ?_
  refine q_iload_n rfl rfl ?_
  refine q_if_lt rfl (fun hc1 => ?_) (fun hc1 => ?_)
  · refine q_aconst_null rfl ?_
    refine q_aretN rfl rfl ?_
    exact ⟨rfl, rfl⟩
  · refine q_iload_n rfl rfl ?_
    refine q_aload_n rfl rfl ?_
    refine q_alen rfl (by decide) hx_2 (by decide) rfl ?_
    refine q_icmp_ge rfl (fun hc7 => ?_) (fun hc7 => ?_)
    · refine q_aconst_null rfl ?_
      refine q_aretN rfl rfl ?_
      exact ⟨rfl, rfl⟩
    · exact absurd (hx.resolve_left hc1) hc7
theorem sX8_lightAt {X : XX} {I A : Nat → Nat → Int32} {J B : Nat → Nat → Int64} {F : Nat → Nat} (k ln : Nat) (hk : k < ln) (hl : ln ≤ 5) (e : I 0 12 = nI ln) : x_ev X xT 1 127 [.ref 0, .int (nI k)] (HX I A J B F) (some (.ref (40 + k))) (HX I A J B F) := by
  refine q_ev (L := [some (.ref 0), some (.int (nI k))]) tX8_lightAt (Nat.le_of_ble_eq_true rfl) rfl ?_
  refine q_iload_n rfl rfl ?_
  refine q_if_lt rfl (fun hc1 => ?_) (fun hc1 => ?_)
  · exact absurd hc1 (nI_pos (by omega))
  · refine q_iload_n rfl rfl ?_
    refine q_aload_n rfl rfl ?_
    refine q_getfield rfl hx_0 rfl ?_
    refine q_icmp_ge rfl (fun hc9 => ?_) (fun hc9 => ?_)
    · rw [e] at hc9
      exact absurd hc9 (nI_nge (a := k) (b := ln) hk (by omega))
    · refine q_iload_n rfl rfl ?_
      refine q_aload_n rfl rfl ?_
      refine q_getfield rfl hx_0 rfl ?_
      refine q_alen rfl (by decide) hx_5 (by decide) rfl ?_
      refine q_icmp_ge rfl (fun hc18 => ?_) (fun hc18 => ?_)
      · exact absurd hc18 (nI_nge (a := k) (b := 5) (by omega) (by omega))
      · refine q_aload_n rfl rfl ?_
        refine q_getfield rfl hx_0 rfl ?_
        refine q_iload_n rfl rfl ?_
        refine q_aaload rfl hx_5 (f_ixk (show k < 5 by omega) (by omega)) rfl (by rw [nI_clamp (show k < 2 ^ 31 by omega)]; exact xr5_at k (by omega)) ?_
        refine q_goto rfl ?_
        refine q_aret rfl rfl ?_
        exact ⟨rfl, rfl⟩
theorem sX8_lightAtN {X : XX} {I A : Nat → Nat → Int32} {J B : Nat → Nat → Int64} {F : Nat → Nat} (x : Int32) (hx : x < 0 ∨ I 0 12 ≤ x) : x_ev X xT 1 127 [.ref 0, .int x] (HX I A J B F) (some (.null)) (HX I A J B F) := by
  refine q_ev (L := [some (.ref 0), some (.int x)]) tX8_lightAt (Nat.le_of_ble_eq_true rfl) rfl ?_
  refine q_iload_n rfl rfl ?_
  refine q_if_lt rfl (fun hc1 => ?_) (fun hc1 => ?_)
  · refine q_aconst_null rfl ?_
    refine q_aretN rfl rfl ?_
    exact ⟨rfl, rfl⟩
  · refine q_iload_n rfl rfl ?_
    refine q_aload_n rfl rfl ?_
    refine q_getfield rfl hx_0 rfl ?_
    refine q_icmp_ge rfl (fun hc9 => ?_) (fun hc9 => ?_)
    · refine q_aconst_null rfl ?_
      refine q_aretN rfl rfl ?_
      exact ⟨rfl, rfl⟩
    · exact absurd (hx.resolve_left hc1) hc9
end
section
/-! THE LAW'S LOOP, over any relation that every pair of calls keeps -/
abbrev XR : Type := (Nat → Nat → Int32) → (Nat → Nat → Int32) → (Nat → Nat → Int64) → (Nat → Nat → Int64) → (Nat → Nat) → Prop
def OpI (X : XX) (R : XR) (μx μm : Nat) (as : List Value) : Prop := ∀ I A J B F, R I A J B F → ∃ (r : Int32) (I1 A1 : Nat → Nat → Int32) (J1 B1 : Nat → Nat → Int64) (F1 : Nat → Nat) (I2 A2 : Nat → Nat → Int32) (J2 B2 : Nat → Nat → Int64) (F2 : Nat → Nat), x_ev X xT 7 μx (.ref 0 :: as) (HX I A J B F) (some (.int r)) (HX I1 A1 J1 B1 F1) ∧ x_ev X xT 7 μm (.ref 51 :: as) (HX I1 A1 J1 B1 F1) (some (.int r)) (HX I2 A2 J2 B2 F2) ∧ R I2 A2 J2 B2 F2
def OpJ (X : XX) (R : XR) (μx μm : Nat) (as : List Value) : Prop := ∀ I A J B F, R I A J B F → ∃ (r : Int64) (I1 A1 : Nat → Nat → Int32) (J1 B1 : Nat → Nat → Int64) (F1 : Nat → Nat) (I2 A2 : Nat → Nat → Int32) (J2 B2 : Nat → Nat → Int64) (F2 : Nat → Nat), x_ev X xT 7 μx (.ref 0 :: as) (HX I A J B F) (some (.long r)) (HX I1 A1 J1 B1 F1) ∧ x_ev X xT 7 μm (.ref 51 :: as) (HX I1 A1 J1 B1 F1) (some (.long r)) (HX I2 A2 J2 B2 F2) ∧ R I2 A2 J2 B2 F2
theorem sc_ix {i k L : Nat} (hk : i + k < L) (hL : L ≤ 384) : ¬ (nI i + nI k < 0 ∨ L ≤ (nI i + nI k).toNatClampNeg) := by
  rw [nI_add]
  exact f_ixk hk (by omega)
def Op_0 (X : XX) (R : XR) : Prop := ∀ a1 a2 : Int32, OpI X R 80 155 [.int a1, .int a2]
def Op_1 (X : XX) (R : XR) : Prop := ∀ a1 a2 a3 : Int32, OpI X R 81 158 [.int a1, .int a2, .int a3]
def Op_2 (X : XX) (R : XR) : Prop := ∀ a1 a2 : Int32, OpI X R 82 159 [.int a1, .int a2]
def Op_3 (X : XX) (R : XR) : Prop := ∀ a1 : Int32, OpI X R 83 160 [.int a1]
def Op_4 (X : XX) (R : XR) : Prop := ∀ a1 a2 a3 a4 a5 : Int32, OpI X R 84 162 [.int a1, .int a2, .int a3, .int a4, .int a5]
def Op_5 (X : XX) (R : XR) : Prop := ∀ a1 : Int32, OpI X R 85 163 [.int a1]
def Op_6 (X : XX) (R : XR) : Prop := ∀ a1 a2 : Int32, OpI X R 86 164 [.int a1, .int a2]
def Op_7 (X : XX) (R : XR) : Prop := ∀ a1 a2 a3 : Int32, OpI X R 87 165 [.int a1, .int a2, .int a3]
def Op_8 (X : XX) (R : XR) : Prop := ∀ a1 : Int32, OpI X R 88 174 [.int a1]
def Op_9 (X : XX) (R : XR) : Prop := ∀ a1 : Int32, OpI X R 89 175 [.int a1]
def Op_10 (X : XX) (R : XR) : Prop := ∀ a1 a2 : Int32, OpI X R 90 187 [.int a1, .int a2]
def Op_11 (X : XX) (R : XR) : Prop := ∀ a1 a2 : Int32, OpI X R 91 193 [.int a1, .int a2]
def Op_12 (X : XX) (R : XR) : Prop := OpI X R 92 196 []
def Op_13 (X : XX) (R : XR) : Prop := ∀ a1 : Int32, OpI X R 93 199 [.int a1]
def Op_14 (X : XX) (R : XR) : Prop := ∀ a1 : Int32, OpI X R 94 200 [.int a1]
def Op_15 (X : XX) (R : XR) : Prop := ∀ a1 : Int32, OpI X R 95 202 [.int a1]
def Op_16 (X : XX) (R : XR) : Prop := ∀ a1 : Int32, OpI X R 96 203 [.int a1]
def Op_17 (X : XX) (R : XR) : Prop := ∀ a1 a2 : Int32, OpI X R 97 205 [.int a1, .int a2]
def Op_18 (X : XX) (R : XR) : Prop := ∀ a1 a2 : Int32, OpI X R 98 206 [.int a1, .int a2]
def Op_19 (X : XX) (R : XR) : Prop := ∀ a1 : Int32, OpI X R 99 207 [.int a1]
def Op_20 (X : XX) (R : XR) : Prop := ∀ a1 : Int32, OpI X R 100 208 [.int a1]
def Op_21 (X : XX) (R : XR) : Prop := ∀ a1 : Int32, OpI X R 101 210 [.int a1]
def Op_22 (X : XX) (R : XR) : Prop := ∀ a1 : Int32, OpI X R 102 211 [.int a1]
def Op_23 (X : XX) (R : XR) : Prop := ∀ a1 a2 a3 : Int32, OpI X R 103 216 [.int a1, .int a2, .int a3]
def Op_24 (X : XX) (R : XR) : Prop := ∀ a1 a2 : Int32, OpI X R 104 217 [.int a1, .int a2]
def Op_25 (X : XX) (R : XR) : Prop := ∀ a1 a2 a3 : Int32, OpI X R 105 218 [.int a1, .int a2, .int a3]
def Op_26 (X : XX) (R : XR) : Prop := ∀ a1 a2 : Int32, OpI X R 106 221 [.int a1, .int a2]
def Op_27 (X : XX) (R : XR) : Prop := ∀ a1 : Int32, OpI X R 107 224 [.int a1]
def Op_28 (X : XX) (R : XR) : Prop := ∀ a1 a2 : Int32, OpI X R 108 227 [.int a1, .int a2]
def Op_29 (X : XX) (R : XR) : Prop := ∀ a1 a2 : Int32, OpI X R 109 228 [.int a1, .int a2]
def Op_30 (X : XX) (R : XR) : Prop := ∀ a1 a2 : Int32, OpI X R 110 229 [.int a1, .int a2]
def Op_31 (X : XX) (R : XR) : Prop := ∀ a1 a2 : Int32, OpI X R 111 230 [.int a1, .int a2]
def Op_32 (X : XX) (R : XR) : Prop := ∀ a1 a2 : Int32, OpI X R 112 232 [.int a1, .int a2]
def Op_33 (X : XX) (R : XR) : Prop := ∀ a1 a2 a3 : Int32, OpI X R 113 237 [.int a1, .int a2, .int a3]
def Op_34 (X : XX) (R : XR) : Prop := ∀ a1 a2 a3 : Int32, OpI X R 114 238 [.int a1, .int a2, .int a3]
def Op_35 (X : XX) (R : XR) : Prop := ∀ a1 a2 : Int32, OpI X R 115 239 [.int a1, .int a2]
def Op_36 (X : XX) (R : XR) : Prop := OpI X R 116 240 []
def Op_37 (X : XX) (R : XR) : Prop := OpJ X R 117 241 []
def Op_38 (X : XX) (R : XR) : Prop := OpJ X R 118 242 []
def Op_39 (X : XX) (R : XR) : Prop := ∀ a1 : Int32, OpI X R 119 246 [.int a1]
def Op_40 (X : XX) (R : XR) : Prop := OpI X R 120 247 []
def Op_41 (X : XX) (R : XR) : Prop := ∀ a1 : Int32, OpI X R 121 248 [.int a1]
def Op_42 (X : XX) (R : XR) : Prop := OpJ X R 122 249 []
set_option maxRecDepth 100000 in
theorem law_0 {X : XX} {R : XR} {P : Option Value → XH → Prop} {i : Nat} (hL : X.1 ≤ 384) (hi : i + 6 ≤ X.1) (hop : Op_0 X R) {I A : Nat → Nat → Int32} {J B : Nat → Nat → Int64} {F : Nat → Nat} (hr : R I A J B F) (next : ∀ I A J B F, R I A J B F → Wp X xT 8 mL_law 1462 [some (.ref 1000), some (.ref 0), some (.ref 51), some (.int (nI i))] [] (HX I A J B F) P) : Wp X xT 8 mL_law 220 [some (.ref 1000), some (.ref 0), some (.ref 51), some (.int (nI i))] [] (HX I A J B F) P := by
  obtain ⟨r, I1, A1, J1, B1, F1, I2, A2, J2, B2, F2, e1, e2, hr2⟩ := hop (X.2 (nI i + 1).toNatClampNeg) (X.2 (nI i + 2).toNatClampNeg) _ _ _ _ _ hr
  refine q_aload_n rfl rfl ?_
  refine q_aload_n rfl rfl ?_
  refine q_iload_n rfl rfl ?_
  refine q_iconst (v := 1) rfl rfl ?_
  refine q_iadd rfl ?_
  refine q_iaload_s rfl (sc_ix (k := 1) (show i + 1 < X.1 by omega) hL) ?_
  refine q_aload_n rfl rfl ?_
  refine q_iload_n rfl rfl ?_
  refine q_iconst (v := 2) rfl rfl ?_
  refine q_iadd rfl ?_
  refine q_iaload_s rfl (sc_ix (k := 2) (show i + 2 < X.1 by omega) hL) ?_
  refine q_callV2 rfl hx_0 (Nat.le_of_ble_eq_true rfl) (Nat.le_of_ble_eq_true rfl) (e1) ?_
  refine q_aload_n rfl rfl ?_
  refine q_aload_n rfl rfl ?_
  refine q_iload_n rfl rfl ?_
  refine q_iconst (v := 1) rfl rfl ?_
  refine q_iadd rfl ?_
  refine q_iaload_s rfl (sc_ix (k := 1) (show i + 1 < X.1 by omega) hL) ?_
  refine q_aload_n rfl rfl ?_
  refine q_iload_n rfl rfl ?_
  refine q_iconst (v := 2) rfl rfl ?_
  refine q_iadd rfl ?_
  refine q_iaload_s rfl (sc_ix (k := 2) (show i + 2 < X.1 by omega) hL) ?_
  refine q_callV2 rfl hx_51 (Nat.le_of_ble_eq_true rfl) (Nat.le_of_ble_eq_true rfl) (e2) ?_
  refine q_icmp_eq rfl (fun hc248 => ?_) (fun hc248 => ?_)
  · exact next _ _ _ _ _ hr2
  · exact absurd rfl hc248
set_option maxRecDepth 100000 in
theorem law_1 {X : XX} {R : XR} {P : Option Value → XH → Prop} {i : Nat} (hL : X.1 ≤ 384) (hi : i + 6 ≤ X.1) (hop : Op_1 X R) {I A : Nat → Nat → Int32} {J B : Nat → Nat → Int64} {F : Nat → Nat} (hr : R I A J B F) (next : ∀ I A J B F, R I A J B F → Wp X xT 8 mL_law 1462 [some (.ref 1000), some (.ref 0), some (.ref 51), some (.int (nI i))] [] (HX I A J B F) P) : Wp X xT 8 mL_law 253 [some (.ref 1000), some (.ref 0), some (.ref 51), some (.int (nI i))] [] (HX I A J B F) P := by
  obtain ⟨r, I1, A1, J1, B1, F1, I2, A2, J2, B2, F2, e1, e2, hr2⟩ := hop (X.2 (nI i + 1).toNatClampNeg) (X.2 (nI i + 2).toNatClampNeg) (X.2 (nI i + 3).toNatClampNeg) _ _ _ _ _ hr
  refine q_aload_n rfl rfl ?_
  refine q_aload_n rfl rfl ?_
  refine q_iload_n rfl rfl ?_
  refine q_iconst (v := 1) rfl rfl ?_
  refine q_iadd rfl ?_
  refine q_iaload_s rfl (sc_ix (k := 1) (show i + 1 < X.1 by omega) hL) ?_
  refine q_aload_n rfl rfl ?_
  refine q_iload_n rfl rfl ?_
  refine q_iconst (v := 2) rfl rfl ?_
  refine q_iadd rfl ?_
  refine q_iaload_s rfl (sc_ix (k := 2) (show i + 2 < X.1 by omega) hL) ?_
  refine q_aload_n rfl rfl ?_
  refine q_iload_n rfl rfl ?_
  refine q_iconst (v := 3) rfl rfl ?_
  refine q_iadd rfl ?_
  refine q_iaload_s rfl (sc_ix (k := 3) (show i + 3 < X.1 by omega) hL) ?_
  refine q_callV3 rfl hx_0 (Nat.le_of_ble_eq_true rfl) (Nat.le_of_ble_eq_true rfl) (e1) ?_
  refine q_aload_n rfl rfl ?_
  refine q_aload_n rfl rfl ?_
  refine q_iload_n rfl rfl ?_
  refine q_iconst (v := 1) rfl rfl ?_
  refine q_iadd rfl ?_
  refine q_iaload_s rfl (sc_ix (k := 1) (show i + 1 < X.1 by omega) hL) ?_
  refine q_aload_n rfl rfl ?_
  refine q_iload_n rfl rfl ?_
  refine q_iconst (v := 2) rfl rfl ?_
  refine q_iadd rfl ?_
  refine q_iaload_s rfl (sc_ix (k := 2) (show i + 2 < X.1 by omega) hL) ?_
  refine q_aload_n rfl rfl ?_
  refine q_iload_n rfl rfl ?_
  refine q_iconst (v := 3) rfl rfl ?_
  refine q_iadd rfl ?_
  refine q_iaload_s rfl (sc_ix (k := 3) (show i + 3 < X.1 by omega) hL) ?_
  refine q_callV3 rfl hx_51 (Nat.le_of_ble_eq_true rfl) (Nat.le_of_ble_eq_true rfl) (e2) ?_
  refine q_icmp_eq rfl (fun hc291 => ?_) (fun hc291 => ?_)
  · exact next _ _ _ _ _ hr2
  · exact absurd rfl hc291
set_option maxRecDepth 100000 in
theorem law_2 {X : XX} {R : XR} {P : Option Value → XH → Prop} {i : Nat} (hL : X.1 ≤ 384) (hi : i + 6 ≤ X.1) (hop : Op_2 X R) {I A : Nat → Nat → Int32} {J B : Nat → Nat → Int64} {F : Nat → Nat} (hr : R I A J B F) (next : ∀ I A J B F, R I A J B F → Wp X xT 8 mL_law 1462 [some (.ref 1000), some (.ref 0), some (.ref 51), some (.int (nI i))] [] (HX I A J B F) P) : Wp X xT 8 mL_law 296 [some (.ref 1000), some (.ref 0), some (.ref 51), some (.int (nI i))] [] (HX I A J B F) P := by
  obtain ⟨r, I1, A1, J1, B1, F1, I2, A2, J2, B2, F2, e1, e2, hr2⟩ := hop (X.2 (nI i + 1).toNatClampNeg) (X.2 (nI i + 2).toNatClampNeg) _ _ _ _ _ hr
  refine q_aload_n rfl rfl ?_
  refine q_aload_n rfl rfl ?_
  refine q_iload_n rfl rfl ?_
  refine q_iconst (v := 1) rfl rfl ?_
  refine q_iadd rfl ?_
  refine q_iaload_s rfl (sc_ix (k := 1) (show i + 1 < X.1 by omega) hL) ?_
  refine q_aload_n rfl rfl ?_
  refine q_iload_n rfl rfl ?_
  refine q_iconst (v := 2) rfl rfl ?_
  refine q_iadd rfl ?_
  refine q_iaload_s rfl (sc_ix (k := 2) (show i + 2 < X.1 by omega) hL) ?_
  refine q_callV2 rfl hx_0 (Nat.le_of_ble_eq_true rfl) (Nat.le_of_ble_eq_true rfl) (e1) ?_
  refine q_aload_n rfl rfl ?_
  refine q_aload_n rfl rfl ?_
  refine q_iload_n rfl rfl ?_
  refine q_iconst (v := 1) rfl rfl ?_
  refine q_iadd rfl ?_
  refine q_iaload_s rfl (sc_ix (k := 1) (show i + 1 < X.1 by omega) hL) ?_
  refine q_aload_n rfl rfl ?_
  refine q_iload_n rfl rfl ?_
  refine q_iconst (v := 2) rfl rfl ?_
  refine q_iadd rfl ?_
  refine q_iaload_s rfl (sc_ix (k := 2) (show i + 2 < X.1 by omega) hL) ?_
  refine q_callV2 rfl hx_51 (Nat.le_of_ble_eq_true rfl) (Nat.le_of_ble_eq_true rfl) (e2) ?_
  refine q_icmp_eq rfl (fun hc324 => ?_) (fun hc324 => ?_)
  · exact next _ _ _ _ _ hr2
  · exact absurd rfl hc324
set_option maxRecDepth 100000 in
theorem law_3 {X : XX} {R : XR} {P : Option Value → XH → Prop} {i : Nat} (hL : X.1 ≤ 384) (hi : i + 6 ≤ X.1) (hop : Op_3 X R) {I A : Nat → Nat → Int32} {J B : Nat → Nat → Int64} {F : Nat → Nat} (hr : R I A J B F) (next : ∀ I A J B F, R I A J B F → Wp X xT 8 mL_law 1462 [some (.ref 1000), some (.ref 0), some (.ref 51), some (.int (nI i))] [] (HX I A J B F) P) : Wp X xT 8 mL_law 329 [some (.ref 1000), some (.ref 0), some (.ref 51), some (.int (nI i))] [] (HX I A J B F) P := by
  obtain ⟨r, I1, A1, J1, B1, F1, I2, A2, J2, B2, F2, e1, e2, hr2⟩ := hop (X.2 (nI i + 1).toNatClampNeg) _ _ _ _ _ hr
  refine q_aload_n rfl rfl ?_
  refine q_aload_n rfl rfl ?_
  refine q_iload_n rfl rfl ?_
  refine q_iconst (v := 1) rfl rfl ?_
  refine q_iadd rfl ?_
  refine q_iaload_s rfl (sc_ix (k := 1) (show i + 1 < X.1 by omega) hL) ?_
  refine q_callV1 rfl hx_0 (Nat.le_of_ble_eq_true rfl) (Nat.le_of_ble_eq_true rfl) (e1) ?_
  refine q_aload_n rfl rfl ?_
  refine q_aload_n rfl rfl ?_
  refine q_iload_n rfl rfl ?_
  refine q_iconst (v := 1) rfl rfl ?_
  refine q_iadd rfl ?_
  refine q_iaload_s rfl (sc_ix (k := 1) (show i + 1 < X.1 by omega) hL) ?_
  refine q_callV1 rfl hx_51 (Nat.le_of_ble_eq_true rfl) (Nat.le_of_ble_eq_true rfl) (e2) ?_
  refine q_icmp_eq rfl (fun hc347 => ?_) (fun hc347 => ?_)
  · exact next _ _ _ _ _ hr2
  · exact absurd rfl hc347
set_option maxRecDepth 100000 in
theorem law_4 {X : XX} {R : XR} {P : Option Value → XH → Prop} {i : Nat} (hL : X.1 ≤ 384) (hi : i + 6 ≤ X.1) (hop : Op_4 X R) {I A : Nat → Nat → Int32} {J B : Nat → Nat → Int64} {F : Nat → Nat} (hr : R I A J B F) (next : ∀ I A J B F, R I A J B F → Wp X xT 8 mL_law 1462 [some (.ref 1000), some (.ref 0), some (.ref 51), some (.int (nI i))] [] (HX I A J B F) P) : Wp X xT 8 mL_law 352 [some (.ref 1000), some (.ref 0), some (.ref 51), some (.int (nI i))] [] (HX I A J B F) P := by
  obtain ⟨r, I1, A1, J1, B1, F1, I2, A2, J2, B2, F2, e1, e2, hr2⟩ := hop (X.2 (nI i + 1).toNatClampNeg) (X.2 (nI i + 2).toNatClampNeg) (X.2 (nI i + 3).toNatClampNeg) (X.2 (nI i + 4).toNatClampNeg) (X.2 (nI i + 5).toNatClampNeg) _ _ _ _ _ hr
  refine q_aload_n rfl rfl ?_
  refine q_aload_n rfl rfl ?_
  refine q_iload_n rfl rfl ?_
  refine q_iconst (v := 1) rfl rfl ?_
  refine q_iadd rfl ?_
  refine q_iaload_s rfl (sc_ix (k := 1) (show i + 1 < X.1 by omega) hL) ?_
  refine q_aload_n rfl rfl ?_
  refine q_iload_n rfl rfl ?_
  refine q_iconst (v := 2) rfl rfl ?_
  refine q_iadd rfl ?_
  refine q_iaload_s rfl (sc_ix (k := 2) (show i + 2 < X.1 by omega) hL) ?_
  refine q_aload_n rfl rfl ?_
  refine q_iload_n rfl rfl ?_
  refine q_iconst (v := 3) rfl rfl ?_
  refine q_iadd rfl ?_
  refine q_iaload_s rfl (sc_ix (k := 3) (show i + 3 < X.1 by omega) hL) ?_
  refine q_aload_n rfl rfl ?_
  refine q_iload_n rfl rfl ?_
  refine q_iconst (v := 4) rfl rfl ?_
  refine q_iadd rfl ?_
  refine q_iaload_s rfl (sc_ix (k := 4) (show i + 4 < X.1 by omega) hL) ?_
  refine q_aload_n rfl rfl ?_
  refine q_iload_n rfl rfl ?_
  refine q_iconst (v := 5) rfl rfl ?_
  refine q_iadd rfl ?_
  refine q_iaload_s rfl (sc_ix (k := 5) (show i + 5 < X.1 by omega) hL) ?_
  refine q_callV5 rfl hx_0 (Nat.le_of_ble_eq_true rfl) (Nat.le_of_ble_eq_true rfl) (e1) ?_
  refine q_aload_n rfl rfl ?_
  refine q_aload_n rfl rfl ?_
  refine q_iload_n rfl rfl ?_
  refine q_iconst (v := 1) rfl rfl ?_
  refine q_iadd rfl ?_
  refine q_iaload_s rfl (sc_ix (k := 1) (show i + 1 < X.1 by omega) hL) ?_
  refine q_aload_n rfl rfl ?_
  refine q_iload_n rfl rfl ?_
  refine q_iconst (v := 2) rfl rfl ?_
  refine q_iadd rfl ?_
  refine q_iaload_s rfl (sc_ix (k := 2) (show i + 2 < X.1 by omega) hL) ?_
  refine q_aload_n rfl rfl ?_
  refine q_iload_n rfl rfl ?_
  refine q_iconst (v := 3) rfl rfl ?_
  refine q_iadd rfl ?_
  refine q_iaload_s rfl (sc_ix (k := 3) (show i + 3 < X.1 by omega) hL) ?_
  refine q_aload_n rfl rfl ?_
  refine q_iload_n rfl rfl ?_
  refine q_iconst (v := 4) rfl rfl ?_
  refine q_iadd rfl ?_
  refine q_iaload_s rfl (sc_ix (k := 4) (show i + 4 < X.1 by omega) hL) ?_
  refine q_aload_n rfl rfl ?_
  refine q_iload_n rfl rfl ?_
  refine q_iconst (v := 5) rfl rfl ?_
  refine q_iadd rfl ?_
  refine q_iaload_s rfl (sc_ix (k := 5) (show i + 5 < X.1 by omega) hL) ?_
  refine q_callV5 rfl hx_51 (Nat.le_of_ble_eq_true rfl) (Nat.le_of_ble_eq_true rfl) (e2) ?_
  refine q_icmp_eq rfl (fun hc410 => ?_) (fun hc410 => ?_)
  · exact next _ _ _ _ _ hr2
  · exact absurd rfl hc410
set_option maxRecDepth 100000 in
theorem law_5 {X : XX} {R : XR} {P : Option Value → XH → Prop} {i : Nat} (hL : X.1 ≤ 384) (hi : i + 6 ≤ X.1) (hop : Op_5 X R) {I A : Nat → Nat → Int32} {J B : Nat → Nat → Int64} {F : Nat → Nat} (hr : R I A J B F) (next : ∀ I A J B F, R I A J B F → Wp X xT 8 mL_law 1462 [some (.ref 1000), some (.ref 0), some (.ref 51), some (.int (nI i))] [] (HX I A J B F) P) : Wp X xT 8 mL_law 415 [some (.ref 1000), some (.ref 0), some (.ref 51), some (.int (nI i))] [] (HX I A J B F) P := by
  obtain ⟨r, I1, A1, J1, B1, F1, I2, A2, J2, B2, F2, e1, e2, hr2⟩ := hop (X.2 (nI i + 1).toNatClampNeg) _ _ _ _ _ hr
  refine q_aload_n rfl rfl ?_
  refine q_aload_n rfl rfl ?_
  refine q_iload_n rfl rfl ?_
  refine q_iconst (v := 1) rfl rfl ?_
  refine q_iadd rfl ?_
  refine q_iaload_s rfl (sc_ix (k := 1) (show i + 1 < X.1 by omega) hL) ?_
  refine q_callV1 rfl hx_0 (Nat.le_of_ble_eq_true rfl) (Nat.le_of_ble_eq_true rfl) (e1) ?_
  refine q_aload_n rfl rfl ?_
  refine q_aload_n rfl rfl ?_
  refine q_iload_n rfl rfl ?_
  refine q_iconst (v := 1) rfl rfl ?_
  refine q_iadd rfl ?_
  refine q_iaload_s rfl (sc_ix (k := 1) (show i + 1 < X.1 by omega) hL) ?_
  refine q_callV1 rfl hx_51 (Nat.le_of_ble_eq_true rfl) (Nat.le_of_ble_eq_true rfl) (e2) ?_
  refine q_icmp_eq rfl (fun hc433 => ?_) (fun hc433 => ?_)
  · exact next _ _ _ _ _ hr2
  · exact absurd rfl hc433
set_option maxRecDepth 100000 in
theorem law_6 {X : XX} {R : XR} {P : Option Value → XH → Prop} {i : Nat} (hL : X.1 ≤ 384) (hi : i + 6 ≤ X.1) (hop : Op_6 X R) {I A : Nat → Nat → Int32} {J B : Nat → Nat → Int64} {F : Nat → Nat} (hr : R I A J B F) (next : ∀ I A J B F, R I A J B F → Wp X xT 8 mL_law 1462 [some (.ref 1000), some (.ref 0), some (.ref 51), some (.int (nI i))] [] (HX I A J B F) P) : Wp X xT 8 mL_law 438 [some (.ref 1000), some (.ref 0), some (.ref 51), some (.int (nI i))] [] (HX I A J B F) P := by
  obtain ⟨r, I1, A1, J1, B1, F1, I2, A2, J2, B2, F2, e1, e2, hr2⟩ := hop (X.2 (nI i + 1).toNatClampNeg) (X.2 (nI i + 2).toNatClampNeg) _ _ _ _ _ hr
  refine q_aload_n rfl rfl ?_
  refine q_aload_n rfl rfl ?_
  refine q_iload_n rfl rfl ?_
  refine q_iconst (v := 1) rfl rfl ?_
  refine q_iadd rfl ?_
  refine q_iaload_s rfl (sc_ix (k := 1) (show i + 1 < X.1 by omega) hL) ?_
  refine q_aload_n rfl rfl ?_
  refine q_iload_n rfl rfl ?_
  refine q_iconst (v := 2) rfl rfl ?_
  refine q_iadd rfl ?_
  refine q_iaload_s rfl (sc_ix (k := 2) (show i + 2 < X.1 by omega) hL) ?_
  refine q_callV2 rfl hx_0 (Nat.le_of_ble_eq_true rfl) (Nat.le_of_ble_eq_true rfl) (e1) ?_
  refine q_aload_n rfl rfl ?_
  refine q_aload_n rfl rfl ?_
  refine q_iload_n rfl rfl ?_
  refine q_iconst (v := 1) rfl rfl ?_
  refine q_iadd rfl ?_
  refine q_iaload_s rfl (sc_ix (k := 1) (show i + 1 < X.1 by omega) hL) ?_
  refine q_aload_n rfl rfl ?_
  refine q_iload_n rfl rfl ?_
  refine q_iconst (v := 2) rfl rfl ?_
  refine q_iadd rfl ?_
  refine q_iaload_s rfl (sc_ix (k := 2) (show i + 2 < X.1 by omega) hL) ?_
  refine q_callV2 rfl hx_51 (Nat.le_of_ble_eq_true rfl) (Nat.le_of_ble_eq_true rfl) (e2) ?_
  refine q_icmp_eq rfl (fun hc466 => ?_) (fun hc466 => ?_)
  · exact next _ _ _ _ _ hr2
  · exact absurd rfl hc466
set_option maxRecDepth 100000 in
theorem law_7 {X : XX} {R : XR} {P : Option Value → XH → Prop} {i : Nat} (hL : X.1 ≤ 384) (hi : i + 6 ≤ X.1) (hop : Op_7 X R) {I A : Nat → Nat → Int32} {J B : Nat → Nat → Int64} {F : Nat → Nat} (hr : R I A J B F) (next : ∀ I A J B F, R I A J B F → Wp X xT 8 mL_law 1462 [some (.ref 1000), some (.ref 0), some (.ref 51), some (.int (nI i))] [] (HX I A J B F) P) : Wp X xT 8 mL_law 471 [some (.ref 1000), some (.ref 0), some (.ref 51), some (.int (nI i))] [] (HX I A J B F) P := by
  obtain ⟨r, I1, A1, J1, B1, F1, I2, A2, J2, B2, F2, e1, e2, hr2⟩ := hop (X.2 (nI i + 1).toNatClampNeg) (X.2 (nI i + 2).toNatClampNeg) (X.2 (nI i + 3).toNatClampNeg) _ _ _ _ _ hr
  refine q_aload_n rfl rfl ?_
  refine q_aload_n rfl rfl ?_
  refine q_iload_n rfl rfl ?_
  refine q_iconst (v := 1) rfl rfl ?_
  refine q_iadd rfl ?_
  refine q_iaload_s rfl (sc_ix (k := 1) (show i + 1 < X.1 by omega) hL) ?_
  refine q_aload_n rfl rfl ?_
  refine q_iload_n rfl rfl ?_
  refine q_iconst (v := 2) rfl rfl ?_
  refine q_iadd rfl ?_
  refine q_iaload_s rfl (sc_ix (k := 2) (show i + 2 < X.1 by omega) hL) ?_
  refine q_aload_n rfl rfl ?_
  refine q_iload_n rfl rfl ?_
  refine q_iconst (v := 3) rfl rfl ?_
  refine q_iadd rfl ?_
  refine q_iaload_s rfl (sc_ix (k := 3) (show i + 3 < X.1 by omega) hL) ?_
  refine q_callV3 rfl hx_0 (Nat.le_of_ble_eq_true rfl) (Nat.le_of_ble_eq_true rfl) (e1) ?_
  refine q_aload_n rfl rfl ?_
  refine q_aload_n rfl rfl ?_
  refine q_iload_n rfl rfl ?_
  refine q_iconst (v := 1) rfl rfl ?_
  refine q_iadd rfl ?_
  refine q_iaload_s rfl (sc_ix (k := 1) (show i + 1 < X.1 by omega) hL) ?_
  refine q_aload_n rfl rfl ?_
  refine q_iload_n rfl rfl ?_
  refine q_iconst (v := 2) rfl rfl ?_
  refine q_iadd rfl ?_
  refine q_iaload_s rfl (sc_ix (k := 2) (show i + 2 < X.1 by omega) hL) ?_
  refine q_aload_n rfl rfl ?_
  refine q_iload_n rfl rfl ?_
  refine q_iconst (v := 3) rfl rfl ?_
  refine q_iadd rfl ?_
  refine q_iaload_s rfl (sc_ix (k := 3) (show i + 3 < X.1 by omega) hL) ?_
  refine q_callV3 rfl hx_51 (Nat.le_of_ble_eq_true rfl) (Nat.le_of_ble_eq_true rfl) (e2) ?_
  refine q_icmp_eq rfl (fun hc509 => ?_) (fun hc509 => ?_)
  · exact next _ _ _ _ _ hr2
  · exact absurd rfl hc509
set_option maxRecDepth 100000 in
theorem law_8 {X : XX} {R : XR} {P : Option Value → XH → Prop} {i : Nat} (hL : X.1 ≤ 384) (hi : i + 6 ≤ X.1) (hop : Op_8 X R) {I A : Nat → Nat → Int32} {J B : Nat → Nat → Int64} {F : Nat → Nat} (hr : R I A J B F) (next : ∀ I A J B F, R I A J B F → Wp X xT 8 mL_law 1462 [some (.ref 1000), some (.ref 0), some (.ref 51), some (.int (nI i))] [] (HX I A J B F) P) : Wp X xT 8 mL_law 514 [some (.ref 1000), some (.ref 0), some (.ref 51), some (.int (nI i))] [] (HX I A J B F) P := by
  obtain ⟨r, I1, A1, J1, B1, F1, I2, A2, J2, B2, F2, e1, e2, hr2⟩ := hop (X.2 (nI i + 1).toNatClampNeg) _ _ _ _ _ hr
  refine q_aload_n rfl rfl ?_
  refine q_aload_n rfl rfl ?_
  refine q_iload_n rfl rfl ?_
  refine q_iconst (v := 1) rfl rfl ?_
  refine q_iadd rfl ?_
  refine q_iaload_s rfl (sc_ix (k := 1) (show i + 1 < X.1 by omega) hL) ?_
  refine q_callV1 rfl hx_0 (Nat.le_of_ble_eq_true rfl) (Nat.le_of_ble_eq_true rfl) (e1) ?_
  refine q_aload_n rfl rfl ?_
  refine q_aload_n rfl rfl ?_
  refine q_iload_n rfl rfl ?_
  refine q_iconst (v := 1) rfl rfl ?_
  refine q_iadd rfl ?_
  refine q_iaload_s rfl (sc_ix (k := 1) (show i + 1 < X.1 by omega) hL) ?_
  refine q_callV1 rfl hx_51 (Nat.le_of_ble_eq_true rfl) (Nat.le_of_ble_eq_true rfl) (e2) ?_
  refine q_icmp_eq rfl (fun hc532 => ?_) (fun hc532 => ?_)
  · exact next _ _ _ _ _ hr2
  · exact absurd rfl hc532
set_option maxRecDepth 100000 in
theorem law_9 {X : XX} {R : XR} {P : Option Value → XH → Prop} {i : Nat} (hL : X.1 ≤ 384) (hi : i + 6 ≤ X.1) (hop : Op_9 X R) {I A : Nat → Nat → Int32} {J B : Nat → Nat → Int64} {F : Nat → Nat} (hr : R I A J B F) (next : ∀ I A J B F, R I A J B F → Wp X xT 8 mL_law 1462 [some (.ref 1000), some (.ref 0), some (.ref 51), some (.int (nI i))] [] (HX I A J B F) P) : Wp X xT 8 mL_law 537 [some (.ref 1000), some (.ref 0), some (.ref 51), some (.int (nI i))] [] (HX I A J B F) P := by
  obtain ⟨r, I1, A1, J1, B1, F1, I2, A2, J2, B2, F2, e1, e2, hr2⟩ := hop (X.2 (nI i + 1).toNatClampNeg) _ _ _ _ _ hr
  refine q_aload_n rfl rfl ?_
  refine q_aload_n rfl rfl ?_
  refine q_iload_n rfl rfl ?_
  refine q_iconst (v := 1) rfl rfl ?_
  refine q_iadd rfl ?_
  refine q_iaload_s rfl (sc_ix (k := 1) (show i + 1 < X.1 by omega) hL) ?_
  refine q_callV1 rfl hx_0 (Nat.le_of_ble_eq_true rfl) (Nat.le_of_ble_eq_true rfl) (e1) ?_
  refine q_aload_n rfl rfl ?_
  refine q_aload_n rfl rfl ?_
  refine q_iload_n rfl rfl ?_
  refine q_iconst (v := 1) rfl rfl ?_
  refine q_iadd rfl ?_
  refine q_iaload_s rfl (sc_ix (k := 1) (show i + 1 < X.1 by omega) hL) ?_
  refine q_callV1 rfl hx_51 (Nat.le_of_ble_eq_true rfl) (Nat.le_of_ble_eq_true rfl) (e2) ?_
  refine q_icmp_eq rfl (fun hc555 => ?_) (fun hc555 => ?_)
  · exact next _ _ _ _ _ hr2
  · exact absurd rfl hc555
set_option maxRecDepth 100000 in
theorem law_10 {X : XX} {R : XR} {P : Option Value → XH → Prop} {i : Nat} (hL : X.1 ≤ 384) (hi : i + 6 ≤ X.1) (hop : Op_10 X R) {I A : Nat → Nat → Int32} {J B : Nat → Nat → Int64} {F : Nat → Nat} (hr : R I A J B F) (next : ∀ I A J B F, R I A J B F → Wp X xT 8 mL_law 1462 [some (.ref 1000), some (.ref 0), some (.ref 51), some (.int (nI i))] [] (HX I A J B F) P) : Wp X xT 8 mL_law 560 [some (.ref 1000), some (.ref 0), some (.ref 51), some (.int (nI i))] [] (HX I A J B F) P := by
  obtain ⟨r, I1, A1, J1, B1, F1, I2, A2, J2, B2, F2, e1, e2, hr2⟩ := hop (X.2 (nI i + 1).toNatClampNeg) (X.2 (nI i + 2).toNatClampNeg) _ _ _ _ _ hr
  refine q_aload_n rfl rfl ?_
  refine q_aload_n rfl rfl ?_
  refine q_iload_n rfl rfl ?_
  refine q_iconst (v := 1) rfl rfl ?_
  refine q_iadd rfl ?_
  refine q_iaload_s rfl (sc_ix (k := 1) (show i + 1 < X.1 by omega) hL) ?_
  refine q_aload_n rfl rfl ?_
  refine q_iload_n rfl rfl ?_
  refine q_iconst (v := 2) rfl rfl ?_
  refine q_iadd rfl ?_
  refine q_iaload_s rfl (sc_ix (k := 2) (show i + 2 < X.1 by omega) hL) ?_
  refine q_callV2 rfl hx_0 (Nat.le_of_ble_eq_true rfl) (Nat.le_of_ble_eq_true rfl) (e1) ?_
  refine q_aload_n rfl rfl ?_
  refine q_aload_n rfl rfl ?_
  refine q_iload_n rfl rfl ?_
  refine q_iconst (v := 1) rfl rfl ?_
  refine q_iadd rfl ?_
  refine q_iaload_s rfl (sc_ix (k := 1) (show i + 1 < X.1 by omega) hL) ?_
  refine q_aload_n rfl rfl ?_
  refine q_iload_n rfl rfl ?_
  refine q_iconst (v := 2) rfl rfl ?_
  refine q_iadd rfl ?_
  refine q_iaload_s rfl (sc_ix (k := 2) (show i + 2 < X.1 by omega) hL) ?_
  refine q_callV2 rfl hx_51 (Nat.le_of_ble_eq_true rfl) (Nat.le_of_ble_eq_true rfl) (e2) ?_
  refine q_icmp_eq rfl (fun hc588 => ?_) (fun hc588 => ?_)
  · exact next _ _ _ _ _ hr2
  · exact absurd rfl hc588
set_option maxRecDepth 100000 in
theorem law_11 {X : XX} {R : XR} {P : Option Value → XH → Prop} {i : Nat} (hL : X.1 ≤ 384) (hi : i + 6 ≤ X.1) (hop : Op_11 X R) {I A : Nat → Nat → Int32} {J B : Nat → Nat → Int64} {F : Nat → Nat} (hr : R I A J B F) (next : ∀ I A J B F, R I A J B F → Wp X xT 8 mL_law 1462 [some (.ref 1000), some (.ref 0), some (.ref 51), some (.int (nI i))] [] (HX I A J B F) P) : Wp X xT 8 mL_law 593 [some (.ref 1000), some (.ref 0), some (.ref 51), some (.int (nI i))] [] (HX I A J B F) P := by
  obtain ⟨r, I1, A1, J1, B1, F1, I2, A2, J2, B2, F2, e1, e2, hr2⟩ := hop (X.2 (nI i + 1).toNatClampNeg) (X.2 (nI i + 2).toNatClampNeg) _ _ _ _ _ hr
  refine q_aload_n rfl rfl ?_
  refine q_aload_n rfl rfl ?_
  refine q_iload_n rfl rfl ?_
  refine q_iconst (v := 1) rfl rfl ?_
  refine q_iadd rfl ?_
  refine q_iaload_s rfl (sc_ix (k := 1) (show i + 1 < X.1 by omega) hL) ?_
  refine q_aload_n rfl rfl ?_
  refine q_iload_n rfl rfl ?_
  refine q_iconst (v := 2) rfl rfl ?_
  refine q_iadd rfl ?_
  refine q_iaload_s rfl (sc_ix (k := 2) (show i + 2 < X.1 by omega) hL) ?_
  refine q_callV2 rfl hx_0 (Nat.le_of_ble_eq_true rfl) (Nat.le_of_ble_eq_true rfl) (e1) ?_
  refine q_aload_n rfl rfl ?_
  refine q_aload_n rfl rfl ?_
  refine q_iload_n rfl rfl ?_
  refine q_iconst (v := 1) rfl rfl ?_
  refine q_iadd rfl ?_
  refine q_iaload_s rfl (sc_ix (k := 1) (show i + 1 < X.1 by omega) hL) ?_
  refine q_aload_n rfl rfl ?_
  refine q_iload_n rfl rfl ?_
  refine q_iconst (v := 2) rfl rfl ?_
  refine q_iadd rfl ?_
  refine q_iaload_s rfl (sc_ix (k := 2) (show i + 2 < X.1 by omega) hL) ?_
  refine q_callV2 rfl hx_51 (Nat.le_of_ble_eq_true rfl) (Nat.le_of_ble_eq_true rfl) (e2) ?_
  refine q_icmp_eq rfl (fun hc621 => ?_) (fun hc621 => ?_)
  · exact next _ _ _ _ _ hr2
  · exact absurd rfl hc621
set_option maxRecDepth 100000 in
theorem law_12 {X : XX} {R : XR} {P : Option Value → XH → Prop} {i : Nat} (hL : X.1 ≤ 384) (hi : i + 6 ≤ X.1) (hop : Op_12 X R) {I A : Nat → Nat → Int32} {J B : Nat → Nat → Int64} {F : Nat → Nat} (hr : R I A J B F) (next : ∀ I A J B F, R I A J B F → Wp X xT 8 mL_law 1462 [some (.ref 1000), some (.ref 0), some (.ref 51), some (.int (nI i))] [] (HX I A J B F) P) : Wp X xT 8 mL_law 626 [some (.ref 1000), some (.ref 0), some (.ref 51), some (.int (nI i))] [] (HX I A J B F) P := by
  obtain ⟨r, I1, A1, J1, B1, F1, I2, A2, J2, B2, F2, e1, e2, hr2⟩ := hop  _ _ _ _ _ hr
  refine q_aload_n rfl rfl ?_
  refine q_callV0 rfl hx_0 (Nat.le_of_ble_eq_true rfl) (Nat.le_of_ble_eq_true rfl) (e1) ?_
  refine q_aload_n rfl rfl ?_
  refine q_callV0 rfl hx_51 (Nat.le_of_ble_eq_true rfl) (Nat.le_of_ble_eq_true rfl) (e2) ?_
  refine q_icmp_eq rfl (fun hc634 => ?_) (fun hc634 => ?_)
  · exact next _ _ _ _ _ hr2
  · exact absurd rfl hc634
set_option maxRecDepth 100000 in
theorem law_13 {X : XX} {R : XR} {P : Option Value → XH → Prop} {i : Nat} (hL : X.1 ≤ 384) (hi : i + 6 ≤ X.1) (hop : Op_13 X R) {I A : Nat → Nat → Int32} {J B : Nat → Nat → Int64} {F : Nat → Nat} (hr : R I A J B F) (next : ∀ I A J B F, R I A J B F → Wp X xT 8 mL_law 1462 [some (.ref 1000), some (.ref 0), some (.ref 51), some (.int (nI i))] [] (HX I A J B F) P) : Wp X xT 8 mL_law 639 [some (.ref 1000), some (.ref 0), some (.ref 51), some (.int (nI i))] [] (HX I A J B F) P := by
  obtain ⟨r, I1, A1, J1, B1, F1, I2, A2, J2, B2, F2, e1, e2, hr2⟩ := hop (X.2 (nI i + 1).toNatClampNeg) _ _ _ _ _ hr
  refine q_aload_n rfl rfl ?_
  refine q_aload_n rfl rfl ?_
  refine q_iload_n rfl rfl ?_
  refine q_iconst (v := 1) rfl rfl ?_
  refine q_iadd rfl ?_
  refine q_iaload_s rfl (sc_ix (k := 1) (show i + 1 < X.1 by omega) hL) ?_
  refine q_callV1 rfl hx_0 (Nat.le_of_ble_eq_true rfl) (Nat.le_of_ble_eq_true rfl) (e1) ?_
  refine q_aload_n rfl rfl ?_
  refine q_aload_n rfl rfl ?_
  refine q_iload_n rfl rfl ?_
  refine q_iconst (v := 1) rfl rfl ?_
  refine q_iadd rfl ?_
  refine q_iaload_s rfl (sc_ix (k := 1) (show i + 1 < X.1 by omega) hL) ?_
  refine q_callV1 rfl hx_51 (Nat.le_of_ble_eq_true rfl) (Nat.le_of_ble_eq_true rfl) (e2) ?_
  refine q_icmp_eq rfl (fun hc657 => ?_) (fun hc657 => ?_)
  · exact next _ _ _ _ _ hr2
  · exact absurd rfl hc657
set_option maxRecDepth 100000 in
theorem law_14 {X : XX} {R : XR} {P : Option Value → XH → Prop} {i : Nat} (hL : X.1 ≤ 384) (hi : i + 6 ≤ X.1) (hop : Op_14 X R) {I A : Nat → Nat → Int32} {J B : Nat → Nat → Int64} {F : Nat → Nat} (hr : R I A J B F) (next : ∀ I A J B F, R I A J B F → Wp X xT 8 mL_law 1462 [some (.ref 1000), some (.ref 0), some (.ref 51), some (.int (nI i))] [] (HX I A J B F) P) : Wp X xT 8 mL_law 662 [some (.ref 1000), some (.ref 0), some (.ref 51), some (.int (nI i))] [] (HX I A J B F) P := by
  obtain ⟨r, I1, A1, J1, B1, F1, I2, A2, J2, B2, F2, e1, e2, hr2⟩ := hop (X.2 (nI i + 1).toNatClampNeg) _ _ _ _ _ hr
  refine q_aload_n rfl rfl ?_
  refine q_aload_n rfl rfl ?_
  refine q_iload_n rfl rfl ?_
  refine q_iconst (v := 1) rfl rfl ?_
  refine q_iadd rfl ?_
  refine q_iaload_s rfl (sc_ix (k := 1) (show i + 1 < X.1 by omega) hL) ?_
  refine q_callV1 rfl hx_0 (Nat.le_of_ble_eq_true rfl) (Nat.le_of_ble_eq_true rfl) (e1) ?_
  refine q_aload_n rfl rfl ?_
  refine q_aload_n rfl rfl ?_
  refine q_iload_n rfl rfl ?_
  refine q_iconst (v := 1) rfl rfl ?_
  refine q_iadd rfl ?_
  refine q_iaload_s rfl (sc_ix (k := 1) (show i + 1 < X.1 by omega) hL) ?_
  refine q_callV1 rfl hx_51 (Nat.le_of_ble_eq_true rfl) (Nat.le_of_ble_eq_true rfl) (e2) ?_
  refine q_icmp_eq rfl (fun hc680 => ?_) (fun hc680 => ?_)
  · exact next _ _ _ _ _ hr2
  · exact absurd rfl hc680
set_option maxRecDepth 100000 in
theorem law_15 {X : XX} {R : XR} {P : Option Value → XH → Prop} {i : Nat} (hL : X.1 ≤ 384) (hi : i + 6 ≤ X.1) (hop : Op_15 X R) {I A : Nat → Nat → Int32} {J B : Nat → Nat → Int64} {F : Nat → Nat} (hr : R I A J B F) (next : ∀ I A J B F, R I A J B F → Wp X xT 8 mL_law 1462 [some (.ref 1000), some (.ref 0), some (.ref 51), some (.int (nI i))] [] (HX I A J B F) P) : Wp X xT 8 mL_law 685 [some (.ref 1000), some (.ref 0), some (.ref 51), some (.int (nI i))] [] (HX I A J B F) P := by
  obtain ⟨r, I1, A1, J1, B1, F1, I2, A2, J2, B2, F2, e1, e2, hr2⟩ := hop (X.2 (nI i + 1).toNatClampNeg) _ _ _ _ _ hr
  refine q_aload_n rfl rfl ?_
  refine q_aload_n rfl rfl ?_
  refine q_iload_n rfl rfl ?_
  refine q_iconst (v := 1) rfl rfl ?_
  refine q_iadd rfl ?_
  refine q_iaload_s rfl (sc_ix (k := 1) (show i + 1 < X.1 by omega) hL) ?_
  refine q_callV1 rfl hx_0 (Nat.le_of_ble_eq_true rfl) (Nat.le_of_ble_eq_true rfl) (e1) ?_
  refine q_aload_n rfl rfl ?_
  refine q_aload_n rfl rfl ?_
  refine q_iload_n rfl rfl ?_
  refine q_iconst (v := 1) rfl rfl ?_
  refine q_iadd rfl ?_
  refine q_iaload_s rfl (sc_ix (k := 1) (show i + 1 < X.1 by omega) hL) ?_
  refine q_callV1 rfl hx_51 (Nat.le_of_ble_eq_true rfl) (Nat.le_of_ble_eq_true rfl) (e2) ?_
  refine q_icmp_eq rfl (fun hc703 => ?_) (fun hc703 => ?_)
  · exact next _ _ _ _ _ hr2
  · exact absurd rfl hc703
set_option maxRecDepth 100000 in
theorem law_16 {X : XX} {R : XR} {P : Option Value → XH → Prop} {i : Nat} (hL : X.1 ≤ 384) (hi : i + 6 ≤ X.1) (hop : Op_16 X R) {I A : Nat → Nat → Int32} {J B : Nat → Nat → Int64} {F : Nat → Nat} (hr : R I A J B F) (next : ∀ I A J B F, R I A J B F → Wp X xT 8 mL_law 1462 [some (.ref 1000), some (.ref 0), some (.ref 51), some (.int (nI i))] [] (HX I A J B F) P) : Wp X xT 8 mL_law 708 [some (.ref 1000), some (.ref 0), some (.ref 51), some (.int (nI i))] [] (HX I A J B F) P := by
  obtain ⟨r, I1, A1, J1, B1, F1, I2, A2, J2, B2, F2, e1, e2, hr2⟩ := hop (X.2 (nI i + 1).toNatClampNeg) _ _ _ _ _ hr
  refine q_aload_n rfl rfl ?_
  refine q_aload_n rfl rfl ?_
  refine q_iload_n rfl rfl ?_
  refine q_iconst (v := 1) rfl rfl ?_
  refine q_iadd rfl ?_
  refine q_iaload_s rfl (sc_ix (k := 1) (show i + 1 < X.1 by omega) hL) ?_
  refine q_callV1 rfl hx_0 (Nat.le_of_ble_eq_true rfl) (Nat.le_of_ble_eq_true rfl) (e1) ?_
  refine q_aload_n rfl rfl ?_
  refine q_aload_n rfl rfl ?_
  refine q_iload_n rfl rfl ?_
  refine q_iconst (v := 1) rfl rfl ?_
  refine q_iadd rfl ?_
  refine q_iaload_s rfl (sc_ix (k := 1) (show i + 1 < X.1 by omega) hL) ?_
  refine q_callV1 rfl hx_51 (Nat.le_of_ble_eq_true rfl) (Nat.le_of_ble_eq_true rfl) (e2) ?_
  refine q_icmp_eq rfl (fun hc726 => ?_) (fun hc726 => ?_)
  · exact next _ _ _ _ _ hr2
  · exact absurd rfl hc726
set_option maxRecDepth 100000 in
theorem law_17 {X : XX} {R : XR} {P : Option Value → XH → Prop} {i : Nat} (hL : X.1 ≤ 384) (hi : i + 6 ≤ X.1) (hop : Op_17 X R) {I A : Nat → Nat → Int32} {J B : Nat → Nat → Int64} {F : Nat → Nat} (hr : R I A J B F) (next : ∀ I A J B F, R I A J B F → Wp X xT 8 mL_law 1462 [some (.ref 1000), some (.ref 0), some (.ref 51), some (.int (nI i))] [] (HX I A J B F) P) : Wp X xT 8 mL_law 731 [some (.ref 1000), some (.ref 0), some (.ref 51), some (.int (nI i))] [] (HX I A J B F) P := by
  obtain ⟨r, I1, A1, J1, B1, F1, I2, A2, J2, B2, F2, e1, e2, hr2⟩ := hop (X.2 (nI i + 1).toNatClampNeg) (X.2 (nI i + 2).toNatClampNeg) _ _ _ _ _ hr
  refine q_aload_n rfl rfl ?_
  refine q_aload_n rfl rfl ?_
  refine q_iload_n rfl rfl ?_
  refine q_iconst (v := 1) rfl rfl ?_
  refine q_iadd rfl ?_
  refine q_iaload_s rfl (sc_ix (k := 1) (show i + 1 < X.1 by omega) hL) ?_
  refine q_aload_n rfl rfl ?_
  refine q_iload_n rfl rfl ?_
  refine q_iconst (v := 2) rfl rfl ?_
  refine q_iadd rfl ?_
  refine q_iaload_s rfl (sc_ix (k := 2) (show i + 2 < X.1 by omega) hL) ?_
  refine q_callV2 rfl hx_0 (Nat.le_of_ble_eq_true rfl) (Nat.le_of_ble_eq_true rfl) (e1) ?_
  refine q_aload_n rfl rfl ?_
  refine q_aload_n rfl rfl ?_
  refine q_iload_n rfl rfl ?_
  refine q_iconst (v := 1) rfl rfl ?_
  refine q_iadd rfl ?_
  refine q_iaload_s rfl (sc_ix (k := 1) (show i + 1 < X.1 by omega) hL) ?_
  refine q_aload_n rfl rfl ?_
  refine q_iload_n rfl rfl ?_
  refine q_iconst (v := 2) rfl rfl ?_
  refine q_iadd rfl ?_
  refine q_iaload_s rfl (sc_ix (k := 2) (show i + 2 < X.1 by omega) hL) ?_
  refine q_callV2 rfl hx_51 (Nat.le_of_ble_eq_true rfl) (Nat.le_of_ble_eq_true rfl) (e2) ?_
  refine q_icmp_eq rfl (fun hc759 => ?_) (fun hc759 => ?_)
  · exact next _ _ _ _ _ hr2
  · exact absurd rfl hc759
set_option maxRecDepth 100000 in
theorem law_18 {X : XX} {R : XR} {P : Option Value → XH → Prop} {i : Nat} (hL : X.1 ≤ 384) (hi : i + 6 ≤ X.1) (hop : Op_18 X R) {I A : Nat → Nat → Int32} {J B : Nat → Nat → Int64} {F : Nat → Nat} (hr : R I A J B F) (next : ∀ I A J B F, R I A J B F → Wp X xT 8 mL_law 1462 [some (.ref 1000), some (.ref 0), some (.ref 51), some (.int (nI i))] [] (HX I A J B F) P) : Wp X xT 8 mL_law 764 [some (.ref 1000), some (.ref 0), some (.ref 51), some (.int (nI i))] [] (HX I A J B F) P := by
  obtain ⟨r, I1, A1, J1, B1, F1, I2, A2, J2, B2, F2, e1, e2, hr2⟩ := hop (X.2 (nI i + 1).toNatClampNeg) (X.2 (nI i + 2).toNatClampNeg) _ _ _ _ _ hr
  refine q_aload_n rfl rfl ?_
  refine q_aload_n rfl rfl ?_
  refine q_iload_n rfl rfl ?_
  refine q_iconst (v := 1) rfl rfl ?_
  refine q_iadd rfl ?_
  refine q_iaload_s rfl (sc_ix (k := 1) (show i + 1 < X.1 by omega) hL) ?_
  refine q_aload_n rfl rfl ?_
  refine q_iload_n rfl rfl ?_
  refine q_iconst (v := 2) rfl rfl ?_
  refine q_iadd rfl ?_
  refine q_iaload_s rfl (sc_ix (k := 2) (show i + 2 < X.1 by omega) hL) ?_
  refine q_callV2 rfl hx_0 (Nat.le_of_ble_eq_true rfl) (Nat.le_of_ble_eq_true rfl) (e1) ?_
  refine q_aload_n rfl rfl ?_
  refine q_aload_n rfl rfl ?_
  refine q_iload_n rfl rfl ?_
  refine q_iconst (v := 1) rfl rfl ?_
  refine q_iadd rfl ?_
  refine q_iaload_s rfl (sc_ix (k := 1) (show i + 1 < X.1 by omega) hL) ?_
  refine q_aload_n rfl rfl ?_
  refine q_iload_n rfl rfl ?_
  refine q_iconst (v := 2) rfl rfl ?_
  refine q_iadd rfl ?_
  refine q_iaload_s rfl (sc_ix (k := 2) (show i + 2 < X.1 by omega) hL) ?_
  refine q_callV2 rfl hx_51 (Nat.le_of_ble_eq_true rfl) (Nat.le_of_ble_eq_true rfl) (e2) ?_
  refine q_icmp_eq rfl (fun hc792 => ?_) (fun hc792 => ?_)
  · exact next _ _ _ _ _ hr2
  · exact absurd rfl hc792
set_option maxRecDepth 100000 in
theorem law_19 {X : XX} {R : XR} {P : Option Value → XH → Prop} {i : Nat} (hL : X.1 ≤ 384) (hi : i + 6 ≤ X.1) (hop : Op_19 X R) {I A : Nat → Nat → Int32} {J B : Nat → Nat → Int64} {F : Nat → Nat} (hr : R I A J B F) (next : ∀ I A J B F, R I A J B F → Wp X xT 8 mL_law 1462 [some (.ref 1000), some (.ref 0), some (.ref 51), some (.int (nI i))] [] (HX I A J B F) P) : Wp X xT 8 mL_law 797 [some (.ref 1000), some (.ref 0), some (.ref 51), some (.int (nI i))] [] (HX I A J B F) P := by
  obtain ⟨r, I1, A1, J1, B1, F1, I2, A2, J2, B2, F2, e1, e2, hr2⟩ := hop (X.2 (nI i + 1).toNatClampNeg) _ _ _ _ _ hr
  refine q_aload_n rfl rfl ?_
  refine q_aload_n rfl rfl ?_
  refine q_iload_n rfl rfl ?_
  refine q_iconst (v := 1) rfl rfl ?_
  refine q_iadd rfl ?_
  refine q_iaload_s rfl (sc_ix (k := 1) (show i + 1 < X.1 by omega) hL) ?_
  refine q_callV1 rfl hx_0 (Nat.le_of_ble_eq_true rfl) (Nat.le_of_ble_eq_true rfl) (e1) ?_
  refine q_aload_n rfl rfl ?_
  refine q_aload_n rfl rfl ?_
  refine q_iload_n rfl rfl ?_
  refine q_iconst (v := 1) rfl rfl ?_
  refine q_iadd rfl ?_
  refine q_iaload_s rfl (sc_ix (k := 1) (show i + 1 < X.1 by omega) hL) ?_
  refine q_callV1 rfl hx_51 (Nat.le_of_ble_eq_true rfl) (Nat.le_of_ble_eq_true rfl) (e2) ?_
  refine q_icmp_eq rfl (fun hc815 => ?_) (fun hc815 => ?_)
  · exact next _ _ _ _ _ hr2
  · exact absurd rfl hc815
set_option maxRecDepth 100000 in
theorem law_20 {X : XX} {R : XR} {P : Option Value → XH → Prop} {i : Nat} (hL : X.1 ≤ 384) (hi : i + 6 ≤ X.1) (hop : Op_20 X R) {I A : Nat → Nat → Int32} {J B : Nat → Nat → Int64} {F : Nat → Nat} (hr : R I A J B F) (next : ∀ I A J B F, R I A J B F → Wp X xT 8 mL_law 1462 [some (.ref 1000), some (.ref 0), some (.ref 51), some (.int (nI i))] [] (HX I A J B F) P) : Wp X xT 8 mL_law 820 [some (.ref 1000), some (.ref 0), some (.ref 51), some (.int (nI i))] [] (HX I A J B F) P := by
  obtain ⟨r, I1, A1, J1, B1, F1, I2, A2, J2, B2, F2, e1, e2, hr2⟩ := hop (X.2 (nI i + 1).toNatClampNeg) _ _ _ _ _ hr
  refine q_aload_n rfl rfl ?_
  refine q_aload_n rfl rfl ?_
  refine q_iload_n rfl rfl ?_
  refine q_iconst (v := 1) rfl rfl ?_
  refine q_iadd rfl ?_
  refine q_iaload_s rfl (sc_ix (k := 1) (show i + 1 < X.1 by omega) hL) ?_
  refine q_callV1 rfl hx_0 (Nat.le_of_ble_eq_true rfl) (Nat.le_of_ble_eq_true rfl) (e1) ?_
  refine q_aload_n rfl rfl ?_
  refine q_aload_n rfl rfl ?_
  refine q_iload_n rfl rfl ?_
  refine q_iconst (v := 1) rfl rfl ?_
  refine q_iadd rfl ?_
  refine q_iaload_s rfl (sc_ix (k := 1) (show i + 1 < X.1 by omega) hL) ?_
  refine q_callV1 rfl hx_51 (Nat.le_of_ble_eq_true rfl) (Nat.le_of_ble_eq_true rfl) (e2) ?_
  refine q_icmp_eq rfl (fun hc838 => ?_) (fun hc838 => ?_)
  · exact next _ _ _ _ _ hr2
  · exact absurd rfl hc838
set_option maxRecDepth 100000 in
theorem law_21 {X : XX} {R : XR} {P : Option Value → XH → Prop} {i : Nat} (hL : X.1 ≤ 384) (hi : i + 6 ≤ X.1) (hop : Op_21 X R) {I A : Nat → Nat → Int32} {J B : Nat → Nat → Int64} {F : Nat → Nat} (hr : R I A J B F) (next : ∀ I A J B F, R I A J B F → Wp X xT 8 mL_law 1462 [some (.ref 1000), some (.ref 0), some (.ref 51), some (.int (nI i))] [] (HX I A J B F) P) : Wp X xT 8 mL_law 843 [some (.ref 1000), some (.ref 0), some (.ref 51), some (.int (nI i))] [] (HX I A J B F) P := by
  obtain ⟨r, I1, A1, J1, B1, F1, I2, A2, J2, B2, F2, e1, e2, hr2⟩ := hop (X.2 (nI i + 1).toNatClampNeg) _ _ _ _ _ hr
  refine q_aload_n rfl rfl ?_
  refine q_aload_n rfl rfl ?_
  refine q_iload_n rfl rfl ?_
  refine q_iconst (v := 1) rfl rfl ?_
  refine q_iadd rfl ?_
  refine q_iaload_s rfl (sc_ix (k := 1) (show i + 1 < X.1 by omega) hL) ?_
  refine q_callV1 rfl hx_0 (Nat.le_of_ble_eq_true rfl) (Nat.le_of_ble_eq_true rfl) (e1) ?_
  refine q_aload_n rfl rfl ?_
  refine q_aload_n rfl rfl ?_
  refine q_iload_n rfl rfl ?_
  refine q_iconst (v := 1) rfl rfl ?_
  refine q_iadd rfl ?_
  refine q_iaload_s rfl (sc_ix (k := 1) (show i + 1 < X.1 by omega) hL) ?_
  refine q_callV1 rfl hx_51 (Nat.le_of_ble_eq_true rfl) (Nat.le_of_ble_eq_true rfl) (e2) ?_
  refine q_icmp_eq rfl (fun hc861 => ?_) (fun hc861 => ?_)
  · exact next _ _ _ _ _ hr2
  · exact absurd rfl hc861
set_option maxRecDepth 100000 in
theorem law_22 {X : XX} {R : XR} {P : Option Value → XH → Prop} {i : Nat} (hL : X.1 ≤ 384) (hi : i + 6 ≤ X.1) (hop : Op_22 X R) {I A : Nat → Nat → Int32} {J B : Nat → Nat → Int64} {F : Nat → Nat} (hr : R I A J B F) (next : ∀ I A J B F, R I A J B F → Wp X xT 8 mL_law 1462 [some (.ref 1000), some (.ref 0), some (.ref 51), some (.int (nI i))] [] (HX I A J B F) P) : Wp X xT 8 mL_law 866 [some (.ref 1000), some (.ref 0), some (.ref 51), some (.int (nI i))] [] (HX I A J B F) P := by
  obtain ⟨r, I1, A1, J1, B1, F1, I2, A2, J2, B2, F2, e1, e2, hr2⟩ := hop (X.2 (nI i + 1).toNatClampNeg) _ _ _ _ _ hr
  refine q_aload_n rfl rfl ?_
  refine q_aload_n rfl rfl ?_
  refine q_iload_n rfl rfl ?_
  refine q_iconst (v := 1) rfl rfl ?_
  refine q_iadd rfl ?_
  refine q_iaload_s rfl (sc_ix (k := 1) (show i + 1 < X.1 by omega) hL) ?_
  refine q_callV1 rfl hx_0 (Nat.le_of_ble_eq_true rfl) (Nat.le_of_ble_eq_true rfl) (e1) ?_
  refine q_aload_n rfl rfl ?_
  refine q_aload_n rfl rfl ?_
  refine q_iload_n rfl rfl ?_
  refine q_iconst (v := 1) rfl rfl ?_
  refine q_iadd rfl ?_
  refine q_iaload_s rfl (sc_ix (k := 1) (show i + 1 < X.1 by omega) hL) ?_
  refine q_callV1 rfl hx_51 (Nat.le_of_ble_eq_true rfl) (Nat.le_of_ble_eq_true rfl) (e2) ?_
  refine q_icmp_eq rfl (fun hc884 => ?_) (fun hc884 => ?_)
  · exact next _ _ _ _ _ hr2
  · exact absurd rfl hc884
set_option maxRecDepth 100000 in
theorem law_23 {X : XX} {R : XR} {P : Option Value → XH → Prop} {i : Nat} (hL : X.1 ≤ 384) (hi : i + 6 ≤ X.1) (hop : Op_23 X R) {I A : Nat → Nat → Int32} {J B : Nat → Nat → Int64} {F : Nat → Nat} (hr : R I A J B F) (next : ∀ I A J B F, R I A J B F → Wp X xT 8 mL_law 1462 [some (.ref 1000), some (.ref 0), some (.ref 51), some (.int (nI i))] [] (HX I A J B F) P) : Wp X xT 8 mL_law 889 [some (.ref 1000), some (.ref 0), some (.ref 51), some (.int (nI i))] [] (HX I A J B F) P := by
  obtain ⟨r, I1, A1, J1, B1, F1, I2, A2, J2, B2, F2, e1, e2, hr2⟩ := hop (X.2 (nI i + 1).toNatClampNeg) (X.2 (nI i + 2).toNatClampNeg) (X.2 (nI i + 3).toNatClampNeg) _ _ _ _ _ hr
  refine q_aload_n rfl rfl ?_
  refine q_aload_n rfl rfl ?_
  refine q_iload_n rfl rfl ?_
  refine q_iconst (v := 1) rfl rfl ?_
  refine q_iadd rfl ?_
  refine q_iaload_s rfl (sc_ix (k := 1) (show i + 1 < X.1 by omega) hL) ?_
  refine q_aload_n rfl rfl ?_
  refine q_iload_n rfl rfl ?_
  refine q_iconst (v := 2) rfl rfl ?_
  refine q_iadd rfl ?_
  refine q_iaload_s rfl (sc_ix (k := 2) (show i + 2 < X.1 by omega) hL) ?_
  refine q_aload_n rfl rfl ?_
  refine q_iload_n rfl rfl ?_
  refine q_iconst (v := 3) rfl rfl ?_
  refine q_iadd rfl ?_
  refine q_iaload_s rfl (sc_ix (k := 3) (show i + 3 < X.1 by omega) hL) ?_
  refine q_callV3 rfl hx_0 (Nat.le_of_ble_eq_true rfl) (Nat.le_of_ble_eq_true rfl) (e1) ?_
  refine q_aload_n rfl rfl ?_
  refine q_aload_n rfl rfl ?_
  refine q_iload_n rfl rfl ?_
  refine q_iconst (v := 1) rfl rfl ?_
  refine q_iadd rfl ?_
  refine q_iaload_s rfl (sc_ix (k := 1) (show i + 1 < X.1 by omega) hL) ?_
  refine q_aload_n rfl rfl ?_
  refine q_iload_n rfl rfl ?_
  refine q_iconst (v := 2) rfl rfl ?_
  refine q_iadd rfl ?_
  refine q_iaload_s rfl (sc_ix (k := 2) (show i + 2 < X.1 by omega) hL) ?_
  refine q_aload_n rfl rfl ?_
  refine q_iload_n rfl rfl ?_
  refine q_iconst (v := 3) rfl rfl ?_
  refine q_iadd rfl ?_
  refine q_iaload_s rfl (sc_ix (k := 3) (show i + 3 < X.1 by omega) hL) ?_
  refine q_callV3 rfl hx_51 (Nat.le_of_ble_eq_true rfl) (Nat.le_of_ble_eq_true rfl) (e2) ?_
  refine q_icmp_eq rfl (fun hc927 => ?_) (fun hc927 => ?_)
  · exact next _ _ _ _ _ hr2
  · exact absurd rfl hc927
set_option maxRecDepth 100000 in
theorem law_24 {X : XX} {R : XR} {P : Option Value → XH → Prop} {i : Nat} (hL : X.1 ≤ 384) (hi : i + 6 ≤ X.1) (hop : Op_24 X R) {I A : Nat → Nat → Int32} {J B : Nat → Nat → Int64} {F : Nat → Nat} (hr : R I A J B F) (next : ∀ I A J B F, R I A J B F → Wp X xT 8 mL_law 1462 [some (.ref 1000), some (.ref 0), some (.ref 51), some (.int (nI i))] [] (HX I A J B F) P) : Wp X xT 8 mL_law 932 [some (.ref 1000), some (.ref 0), some (.ref 51), some (.int (nI i))] [] (HX I A J B F) P := by
  obtain ⟨r, I1, A1, J1, B1, F1, I2, A2, J2, B2, F2, e1, e2, hr2⟩ := hop (X.2 (nI i + 1).toNatClampNeg) (X.2 (nI i + 2).toNatClampNeg) _ _ _ _ _ hr
  refine q_aload_n rfl rfl ?_
  refine q_aload_n rfl rfl ?_
  refine q_iload_n rfl rfl ?_
  refine q_iconst (v := 1) rfl rfl ?_
  refine q_iadd rfl ?_
  refine q_iaload_s rfl (sc_ix (k := 1) (show i + 1 < X.1 by omega) hL) ?_
  refine q_aload_n rfl rfl ?_
  refine q_iload_n rfl rfl ?_
  refine q_iconst (v := 2) rfl rfl ?_
  refine q_iadd rfl ?_
  refine q_iaload_s rfl (sc_ix (k := 2) (show i + 2 < X.1 by omega) hL) ?_
  refine q_callV2 rfl hx_0 (Nat.le_of_ble_eq_true rfl) (Nat.le_of_ble_eq_true rfl) (e1) ?_
  refine q_aload_n rfl rfl ?_
  refine q_aload_n rfl rfl ?_
  refine q_iload_n rfl rfl ?_
  refine q_iconst (v := 1) rfl rfl ?_
  refine q_iadd rfl ?_
  refine q_iaload_s rfl (sc_ix (k := 1) (show i + 1 < X.1 by omega) hL) ?_
  refine q_aload_n rfl rfl ?_
  refine q_iload_n rfl rfl ?_
  refine q_iconst (v := 2) rfl rfl ?_
  refine q_iadd rfl ?_
  refine q_iaload_s rfl (sc_ix (k := 2) (show i + 2 < X.1 by omega) hL) ?_
  refine q_callV2 rfl hx_51 (Nat.le_of_ble_eq_true rfl) (Nat.le_of_ble_eq_true rfl) (e2) ?_
  refine q_icmp_eq rfl (fun hc960 => ?_) (fun hc960 => ?_)
  · exact next _ _ _ _ _ hr2
  · exact absurd rfl hc960
set_option maxRecDepth 100000 in
theorem law_25 {X : XX} {R : XR} {P : Option Value → XH → Prop} {i : Nat} (hL : X.1 ≤ 384) (hi : i + 6 ≤ X.1) (hop : Op_25 X R) {I A : Nat → Nat → Int32} {J B : Nat → Nat → Int64} {F : Nat → Nat} (hr : R I A J B F) (next : ∀ I A J B F, R I A J B F → Wp X xT 8 mL_law 1462 [some (.ref 1000), some (.ref 0), some (.ref 51), some (.int (nI i))] [] (HX I A J B F) P) : Wp X xT 8 mL_law 965 [some (.ref 1000), some (.ref 0), some (.ref 51), some (.int (nI i))] [] (HX I A J B F) P := by
  obtain ⟨r, I1, A1, J1, B1, F1, I2, A2, J2, B2, F2, e1, e2, hr2⟩ := hop (X.2 (nI i + 1).toNatClampNeg) (X.2 (nI i + 2).toNatClampNeg) (X.2 (nI i + 3).toNatClampNeg) _ _ _ _ _ hr
  refine q_aload_n rfl rfl ?_
  refine q_aload_n rfl rfl ?_
  refine q_iload_n rfl rfl ?_
  refine q_iconst (v := 1) rfl rfl ?_
  refine q_iadd rfl ?_
  refine q_iaload_s rfl (sc_ix (k := 1) (show i + 1 < X.1 by omega) hL) ?_
  refine q_aload_n rfl rfl ?_
  refine q_iload_n rfl rfl ?_
  refine q_iconst (v := 2) rfl rfl ?_
  refine q_iadd rfl ?_
  refine q_iaload_s rfl (sc_ix (k := 2) (show i + 2 < X.1 by omega) hL) ?_
  refine q_aload_n rfl rfl ?_
  refine q_iload_n rfl rfl ?_
  refine q_iconst (v := 3) rfl rfl ?_
  refine q_iadd rfl ?_
  refine q_iaload_s rfl (sc_ix (k := 3) (show i + 3 < X.1 by omega) hL) ?_
  refine q_callV3 rfl hx_0 (Nat.le_of_ble_eq_true rfl) (Nat.le_of_ble_eq_true rfl) (e1) ?_
  refine q_aload_n rfl rfl ?_
  refine q_aload_n rfl rfl ?_
  refine q_iload_n rfl rfl ?_
  refine q_iconst (v := 1) rfl rfl ?_
  refine q_iadd rfl ?_
  refine q_iaload_s rfl (sc_ix (k := 1) (show i + 1 < X.1 by omega) hL) ?_
  refine q_aload_n rfl rfl ?_
  refine q_iload_n rfl rfl ?_
  refine q_iconst (v := 2) rfl rfl ?_
  refine q_iadd rfl ?_
  refine q_iaload_s rfl (sc_ix (k := 2) (show i + 2 < X.1 by omega) hL) ?_
  refine q_aload_n rfl rfl ?_
  refine q_iload_n rfl rfl ?_
  refine q_iconst (v := 3) rfl rfl ?_
  refine q_iadd rfl ?_
  refine q_iaload_s rfl (sc_ix (k := 3) (show i + 3 < X.1 by omega) hL) ?_
  refine q_callV3 rfl hx_51 (Nat.le_of_ble_eq_true rfl) (Nat.le_of_ble_eq_true rfl) (e2) ?_
  refine q_icmp_eq rfl (fun hc1003 => ?_) (fun hc1003 => ?_)
  · exact next _ _ _ _ _ hr2
  · exact absurd rfl hc1003
set_option maxRecDepth 100000 in
theorem law_26 {X : XX} {R : XR} {P : Option Value → XH → Prop} {i : Nat} (hL : X.1 ≤ 384) (hi : i + 6 ≤ X.1) (hop : Op_26 X R) {I A : Nat → Nat → Int32} {J B : Nat → Nat → Int64} {F : Nat → Nat} (hr : R I A J B F) (next : ∀ I A J B F, R I A J B F → Wp X xT 8 mL_law 1462 [some (.ref 1000), some (.ref 0), some (.ref 51), some (.int (nI i))] [] (HX I A J B F) P) : Wp X xT 8 mL_law 1008 [some (.ref 1000), some (.ref 0), some (.ref 51), some (.int (nI i))] [] (HX I A J B F) P := by
  obtain ⟨r, I1, A1, J1, B1, F1, I2, A2, J2, B2, F2, e1, e2, hr2⟩ := hop (X.2 (nI i + 1).toNatClampNeg) (X.2 (nI i + 2).toNatClampNeg) _ _ _ _ _ hr
  refine q_aload_n rfl rfl ?_
  refine q_aload_n rfl rfl ?_
  refine q_iload_n rfl rfl ?_
  refine q_iconst (v := 1) rfl rfl ?_
  refine q_iadd rfl ?_
  refine q_iaload_s rfl (sc_ix (k := 1) (show i + 1 < X.1 by omega) hL) ?_
  refine q_aload_n rfl rfl ?_
  refine q_iload_n rfl rfl ?_
  refine q_iconst (v := 2) rfl rfl ?_
  refine q_iadd rfl ?_
  refine q_iaload_s rfl (sc_ix (k := 2) (show i + 2 < X.1 by omega) hL) ?_
  refine q_callV2 rfl hx_0 (Nat.le_of_ble_eq_true rfl) (Nat.le_of_ble_eq_true rfl) (e1) ?_
  refine q_aload_n rfl rfl ?_
  refine q_aload_n rfl rfl ?_
  refine q_iload_n rfl rfl ?_
  refine q_iconst (v := 1) rfl rfl ?_
  refine q_iadd rfl ?_
  refine q_iaload_s rfl (sc_ix (k := 1) (show i + 1 < X.1 by omega) hL) ?_
  refine q_aload_n rfl rfl ?_
  refine q_iload_n rfl rfl ?_
  refine q_iconst (v := 2) rfl rfl ?_
  refine q_iadd rfl ?_
  refine q_iaload_s rfl (sc_ix (k := 2) (show i + 2 < X.1 by omega) hL) ?_
  refine q_callV2 rfl hx_51 (Nat.le_of_ble_eq_true rfl) (Nat.le_of_ble_eq_true rfl) (e2) ?_
  refine q_icmp_eq rfl (fun hc1036 => ?_) (fun hc1036 => ?_)
  · exact next _ _ _ _ _ hr2
  · exact absurd rfl hc1036
set_option maxRecDepth 100000 in
theorem law_27 {X : XX} {R : XR} {P : Option Value → XH → Prop} {i : Nat} (hL : X.1 ≤ 384) (hi : i + 6 ≤ X.1) (hop : Op_27 X R) {I A : Nat → Nat → Int32} {J B : Nat → Nat → Int64} {F : Nat → Nat} (hr : R I A J B F) (next : ∀ I A J B F, R I A J B F → Wp X xT 8 mL_law 1462 [some (.ref 1000), some (.ref 0), some (.ref 51), some (.int (nI i))] [] (HX I A J B F) P) : Wp X xT 8 mL_law 1041 [some (.ref 1000), some (.ref 0), some (.ref 51), some (.int (nI i))] [] (HX I A J B F) P := by
  obtain ⟨r, I1, A1, J1, B1, F1, I2, A2, J2, B2, F2, e1, e2, hr2⟩ := hop (X.2 (nI i + 1).toNatClampNeg) _ _ _ _ _ hr
  refine q_aload_n rfl rfl ?_
  refine q_aload_n rfl rfl ?_
  refine q_iload_n rfl rfl ?_
  refine q_iconst (v := 1) rfl rfl ?_
  refine q_iadd rfl ?_
  refine q_iaload_s rfl (sc_ix (k := 1) (show i + 1 < X.1 by omega) hL) ?_
  refine q_callV1 rfl hx_0 (Nat.le_of_ble_eq_true rfl) (Nat.le_of_ble_eq_true rfl) (e1) ?_
  refine q_aload_n rfl rfl ?_
  refine q_aload_n rfl rfl ?_
  refine q_iload_n rfl rfl ?_
  refine q_iconst (v := 1) rfl rfl ?_
  refine q_iadd rfl ?_
  refine q_iaload_s rfl (sc_ix (k := 1) (show i + 1 < X.1 by omega) hL) ?_
  refine q_callV1 rfl hx_51 (Nat.le_of_ble_eq_true rfl) (Nat.le_of_ble_eq_true rfl) (e2) ?_
  refine q_icmp_eq rfl (fun hc1059 => ?_) (fun hc1059 => ?_)
  · exact next _ _ _ _ _ hr2
  · exact absurd rfl hc1059
set_option maxRecDepth 100000 in
theorem law_28 {X : XX} {R : XR} {P : Option Value → XH → Prop} {i : Nat} (hL : X.1 ≤ 384) (hi : i + 6 ≤ X.1) (hop : Op_28 X R) {I A : Nat → Nat → Int32} {J B : Nat → Nat → Int64} {F : Nat → Nat} (hr : R I A J B F) (next : ∀ I A J B F, R I A J B F → Wp X xT 8 mL_law 1462 [some (.ref 1000), some (.ref 0), some (.ref 51), some (.int (nI i))] [] (HX I A J B F) P) : Wp X xT 8 mL_law 1064 [some (.ref 1000), some (.ref 0), some (.ref 51), some (.int (nI i))] [] (HX I A J B F) P := by
  obtain ⟨r, I1, A1, J1, B1, F1, I2, A2, J2, B2, F2, e1, e2, hr2⟩ := hop (X.2 (nI i + 1).toNatClampNeg) (X.2 (nI i + 2).toNatClampNeg) _ _ _ _ _ hr
  refine q_aload_n rfl rfl ?_
  refine q_aload_n rfl rfl ?_
  refine q_iload_n rfl rfl ?_
  refine q_iconst (v := 1) rfl rfl ?_
  refine q_iadd rfl ?_
  refine q_iaload_s rfl (sc_ix (k := 1) (show i + 1 < X.1 by omega) hL) ?_
  refine q_aload_n rfl rfl ?_
  refine q_iload_n rfl rfl ?_
  refine q_iconst (v := 2) rfl rfl ?_
  refine q_iadd rfl ?_
  refine q_iaload_s rfl (sc_ix (k := 2) (show i + 2 < X.1 by omega) hL) ?_
  refine q_callV2 rfl hx_0 (Nat.le_of_ble_eq_true rfl) (Nat.le_of_ble_eq_true rfl) (e1) ?_
  refine q_aload_n rfl rfl ?_
  refine q_aload_n rfl rfl ?_
  refine q_iload_n rfl rfl ?_
  refine q_iconst (v := 1) rfl rfl ?_
  refine q_iadd rfl ?_
  refine q_iaload_s rfl (sc_ix (k := 1) (show i + 1 < X.1 by omega) hL) ?_
  refine q_aload_n rfl rfl ?_
  refine q_iload_n rfl rfl ?_
  refine q_iconst (v := 2) rfl rfl ?_
  refine q_iadd rfl ?_
  refine q_iaload_s rfl (sc_ix (k := 2) (show i + 2 < X.1 by omega) hL) ?_
  refine q_callV2 rfl hx_51 (Nat.le_of_ble_eq_true rfl) (Nat.le_of_ble_eq_true rfl) (e2) ?_
  refine q_icmp_eq rfl (fun hc1092 => ?_) (fun hc1092 => ?_)
  · exact next _ _ _ _ _ hr2
  · exact absurd rfl hc1092
set_option maxRecDepth 100000 in
theorem law_29 {X : XX} {R : XR} {P : Option Value → XH → Prop} {i : Nat} (hL : X.1 ≤ 384) (hi : i + 6 ≤ X.1) (hop : Op_29 X R) {I A : Nat → Nat → Int32} {J B : Nat → Nat → Int64} {F : Nat → Nat} (hr : R I A J B F) (next : ∀ I A J B F, R I A J B F → Wp X xT 8 mL_law 1462 [some (.ref 1000), some (.ref 0), some (.ref 51), some (.int (nI i))] [] (HX I A J B F) P) : Wp X xT 8 mL_law 1097 [some (.ref 1000), some (.ref 0), some (.ref 51), some (.int (nI i))] [] (HX I A J B F) P := by
  obtain ⟨r, I1, A1, J1, B1, F1, I2, A2, J2, B2, F2, e1, e2, hr2⟩ := hop (X.2 (nI i + 1).toNatClampNeg) (X.2 (nI i + 2).toNatClampNeg) _ _ _ _ _ hr
  refine q_aload_n rfl rfl ?_
  refine q_aload_n rfl rfl ?_
  refine q_iload_n rfl rfl ?_
  refine q_iconst (v := 1) rfl rfl ?_
  refine q_iadd rfl ?_
  refine q_iaload_s rfl (sc_ix (k := 1) (show i + 1 < X.1 by omega) hL) ?_
  refine q_aload_n rfl rfl ?_
  refine q_iload_n rfl rfl ?_
  refine q_iconst (v := 2) rfl rfl ?_
  refine q_iadd rfl ?_
  refine q_iaload_s rfl (sc_ix (k := 2) (show i + 2 < X.1 by omega) hL) ?_
  refine q_callV2 rfl hx_0 (Nat.le_of_ble_eq_true rfl) (Nat.le_of_ble_eq_true rfl) (e1) ?_
  refine q_aload_n rfl rfl ?_
  refine q_aload_n rfl rfl ?_
  refine q_iload_n rfl rfl ?_
  refine q_iconst (v := 1) rfl rfl ?_
  refine q_iadd rfl ?_
  refine q_iaload_s rfl (sc_ix (k := 1) (show i + 1 < X.1 by omega) hL) ?_
  refine q_aload_n rfl rfl ?_
  refine q_iload_n rfl rfl ?_
  refine q_iconst (v := 2) rfl rfl ?_
  refine q_iadd rfl ?_
  refine q_iaload_s rfl (sc_ix (k := 2) (show i + 2 < X.1 by omega) hL) ?_
  refine q_callV2 rfl hx_51 (Nat.le_of_ble_eq_true rfl) (Nat.le_of_ble_eq_true rfl) (e2) ?_
  refine q_icmp_eq rfl (fun hc1125 => ?_) (fun hc1125 => ?_)
  · exact next _ _ _ _ _ hr2
  · exact absurd rfl hc1125
set_option maxRecDepth 100000 in
theorem law_30 {X : XX} {R : XR} {P : Option Value → XH → Prop} {i : Nat} (hL : X.1 ≤ 384) (hi : i + 6 ≤ X.1) (hop : Op_30 X R) {I A : Nat → Nat → Int32} {J B : Nat → Nat → Int64} {F : Nat → Nat} (hr : R I A J B F) (next : ∀ I A J B F, R I A J B F → Wp X xT 8 mL_law 1462 [some (.ref 1000), some (.ref 0), some (.ref 51), some (.int (nI i))] [] (HX I A J B F) P) : Wp X xT 8 mL_law 1130 [some (.ref 1000), some (.ref 0), some (.ref 51), some (.int (nI i))] [] (HX I A J B F) P := by
  obtain ⟨r, I1, A1, J1, B1, F1, I2, A2, J2, B2, F2, e1, e2, hr2⟩ := hop (X.2 (nI i + 1).toNatClampNeg) (X.2 (nI i + 2).toNatClampNeg) _ _ _ _ _ hr
  refine q_aload_n rfl rfl ?_
  refine q_aload_n rfl rfl ?_
  refine q_iload_n rfl rfl ?_
  refine q_iconst (v := 1) rfl rfl ?_
  refine q_iadd rfl ?_
  refine q_iaload_s rfl (sc_ix (k := 1) (show i + 1 < X.1 by omega) hL) ?_
  refine q_aload_n rfl rfl ?_
  refine q_iload_n rfl rfl ?_
  refine q_iconst (v := 2) rfl rfl ?_
  refine q_iadd rfl ?_
  refine q_iaload_s rfl (sc_ix (k := 2) (show i + 2 < X.1 by omega) hL) ?_
  refine q_callV2 rfl hx_0 (Nat.le_of_ble_eq_true rfl) (Nat.le_of_ble_eq_true rfl) (e1) ?_
  refine q_aload_n rfl rfl ?_
  refine q_aload_n rfl rfl ?_
  refine q_iload_n rfl rfl ?_
  refine q_iconst (v := 1) rfl rfl ?_
  refine q_iadd rfl ?_
  refine q_iaload_s rfl (sc_ix (k := 1) (show i + 1 < X.1 by omega) hL) ?_
  refine q_aload_n rfl rfl ?_
  refine q_iload_n rfl rfl ?_
  refine q_iconst (v := 2) rfl rfl ?_
  refine q_iadd rfl ?_
  refine q_iaload_s rfl (sc_ix (k := 2) (show i + 2 < X.1 by omega) hL) ?_
  refine q_callV2 rfl hx_51 (Nat.le_of_ble_eq_true rfl) (Nat.le_of_ble_eq_true rfl) (e2) ?_
  refine q_icmp_eq rfl (fun hc1158 => ?_) (fun hc1158 => ?_)
  · exact next _ _ _ _ _ hr2
  · exact absurd rfl hc1158
set_option maxRecDepth 100000 in
theorem law_31 {X : XX} {R : XR} {P : Option Value → XH → Prop} {i : Nat} (hL : X.1 ≤ 384) (hi : i + 6 ≤ X.1) (hop : Op_31 X R) {I A : Nat → Nat → Int32} {J B : Nat → Nat → Int64} {F : Nat → Nat} (hr : R I A J B F) (next : ∀ I A J B F, R I A J B F → Wp X xT 8 mL_law 1462 [some (.ref 1000), some (.ref 0), some (.ref 51), some (.int (nI i))] [] (HX I A J B F) P) : Wp X xT 8 mL_law 1163 [some (.ref 1000), some (.ref 0), some (.ref 51), some (.int (nI i))] [] (HX I A J B F) P := by
  obtain ⟨r, I1, A1, J1, B1, F1, I2, A2, J2, B2, F2, e1, e2, hr2⟩ := hop (X.2 (nI i + 1).toNatClampNeg) (X.2 (nI i + 2).toNatClampNeg) _ _ _ _ _ hr
  refine q_aload_n rfl rfl ?_
  refine q_aload_n rfl rfl ?_
  refine q_iload_n rfl rfl ?_
  refine q_iconst (v := 1) rfl rfl ?_
  refine q_iadd rfl ?_
  refine q_iaload_s rfl (sc_ix (k := 1) (show i + 1 < X.1 by omega) hL) ?_
  refine q_aload_n rfl rfl ?_
  refine q_iload_n rfl rfl ?_
  refine q_iconst (v := 2) rfl rfl ?_
  refine q_iadd rfl ?_
  refine q_iaload_s rfl (sc_ix (k := 2) (show i + 2 < X.1 by omega) hL) ?_
  refine q_callV2 rfl hx_0 (Nat.le_of_ble_eq_true rfl) (Nat.le_of_ble_eq_true rfl) (e1) ?_
  refine q_aload_n rfl rfl ?_
  refine q_aload_n rfl rfl ?_
  refine q_iload_n rfl rfl ?_
  refine q_iconst (v := 1) rfl rfl ?_
  refine q_iadd rfl ?_
  refine q_iaload_s rfl (sc_ix (k := 1) (show i + 1 < X.1 by omega) hL) ?_
  refine q_aload_n rfl rfl ?_
  refine q_iload_n rfl rfl ?_
  refine q_iconst (v := 2) rfl rfl ?_
  refine q_iadd rfl ?_
  refine q_iaload_s rfl (sc_ix (k := 2) (show i + 2 < X.1 by omega) hL) ?_
  refine q_callV2 rfl hx_51 (Nat.le_of_ble_eq_true rfl) (Nat.le_of_ble_eq_true rfl) (e2) ?_
  refine q_icmp_eq rfl (fun hc1191 => ?_) (fun hc1191 => ?_)
  · exact next _ _ _ _ _ hr2
  · exact absurd rfl hc1191
set_option maxRecDepth 100000 in
theorem law_32 {X : XX} {R : XR} {P : Option Value → XH → Prop} {i : Nat} (hL : X.1 ≤ 384) (hi : i + 6 ≤ X.1) (hop : Op_32 X R) {I A : Nat → Nat → Int32} {J B : Nat → Nat → Int64} {F : Nat → Nat} (hr : R I A J B F) (next : ∀ I A J B F, R I A J B F → Wp X xT 8 mL_law 1462 [some (.ref 1000), some (.ref 0), some (.ref 51), some (.int (nI i))] [] (HX I A J B F) P) : Wp X xT 8 mL_law 1196 [some (.ref 1000), some (.ref 0), some (.ref 51), some (.int (nI i))] [] (HX I A J B F) P := by
  obtain ⟨r, I1, A1, J1, B1, F1, I2, A2, J2, B2, F2, e1, e2, hr2⟩ := hop (X.2 (nI i + 1).toNatClampNeg) (X.2 (nI i + 2).toNatClampNeg) _ _ _ _ _ hr
  refine q_aload_n rfl rfl ?_
  refine q_aload_n rfl rfl ?_
  refine q_iload_n rfl rfl ?_
  refine q_iconst (v := 1) rfl rfl ?_
  refine q_iadd rfl ?_
  refine q_iaload_s rfl (sc_ix (k := 1) (show i + 1 < X.1 by omega) hL) ?_
  refine q_aload_n rfl rfl ?_
  refine q_iload_n rfl rfl ?_
  refine q_iconst (v := 2) rfl rfl ?_
  refine q_iadd rfl ?_
  refine q_iaload_s rfl (sc_ix (k := 2) (show i + 2 < X.1 by omega) hL) ?_
  refine q_callV2 rfl hx_0 (Nat.le_of_ble_eq_true rfl) (Nat.le_of_ble_eq_true rfl) (e1) ?_
  refine q_aload_n rfl rfl ?_
  refine q_aload_n rfl rfl ?_
  refine q_iload_n rfl rfl ?_
  refine q_iconst (v := 1) rfl rfl ?_
  refine q_iadd rfl ?_
  refine q_iaload_s rfl (sc_ix (k := 1) (show i + 1 < X.1 by omega) hL) ?_
  refine q_aload_n rfl rfl ?_
  refine q_iload_n rfl rfl ?_
  refine q_iconst (v := 2) rfl rfl ?_
  refine q_iadd rfl ?_
  refine q_iaload_s rfl (sc_ix (k := 2) (show i + 2 < X.1 by omega) hL) ?_
  refine q_callV2 rfl hx_51 (Nat.le_of_ble_eq_true rfl) (Nat.le_of_ble_eq_true rfl) (e2) ?_
  refine q_icmp_eq rfl (fun hc1224 => ?_) (fun hc1224 => ?_)
  · exact next _ _ _ _ _ hr2
  · exact absurd rfl hc1224
set_option maxRecDepth 100000 in
theorem law_33 {X : XX} {R : XR} {P : Option Value → XH → Prop} {i : Nat} (hL : X.1 ≤ 384) (hi : i + 6 ≤ X.1) (hop : Op_33 X R) {I A : Nat → Nat → Int32} {J B : Nat → Nat → Int64} {F : Nat → Nat} (hr : R I A J B F) (next : ∀ I A J B F, R I A J B F → Wp X xT 8 mL_law 1462 [some (.ref 1000), some (.ref 0), some (.ref 51), some (.int (nI i))] [] (HX I A J B F) P) : Wp X xT 8 mL_law 1229 [some (.ref 1000), some (.ref 0), some (.ref 51), some (.int (nI i))] [] (HX I A J B F) P := by
  obtain ⟨r, I1, A1, J1, B1, F1, I2, A2, J2, B2, F2, e1, e2, hr2⟩ := hop (X.2 (nI i + 1).toNatClampNeg) (X.2 (nI i + 2).toNatClampNeg) (X.2 (nI i + 3).toNatClampNeg) _ _ _ _ _ hr
  refine q_aload_n rfl rfl ?_
  refine q_aload_n rfl rfl ?_
  refine q_iload_n rfl rfl ?_
  refine q_iconst (v := 1) rfl rfl ?_
  refine q_iadd rfl ?_
  refine q_iaload_s rfl (sc_ix (k := 1) (show i + 1 < X.1 by omega) hL) ?_
  refine q_aload_n rfl rfl ?_
  refine q_iload_n rfl rfl ?_
  refine q_iconst (v := 2) rfl rfl ?_
  refine q_iadd rfl ?_
  refine q_iaload_s rfl (sc_ix (k := 2) (show i + 2 < X.1 by omega) hL) ?_
  refine q_aload_n rfl rfl ?_
  refine q_iload_n rfl rfl ?_
  refine q_iconst (v := 3) rfl rfl ?_
  refine q_iadd rfl ?_
  refine q_iaload_s rfl (sc_ix (k := 3) (show i + 3 < X.1 by omega) hL) ?_
  refine q_callV3 rfl hx_0 (Nat.le_of_ble_eq_true rfl) (Nat.le_of_ble_eq_true rfl) (e1) ?_
  refine q_aload_n rfl rfl ?_
  refine q_aload_n rfl rfl ?_
  refine q_iload_n rfl rfl ?_
  refine q_iconst (v := 1) rfl rfl ?_
  refine q_iadd rfl ?_
  refine q_iaload_s rfl (sc_ix (k := 1) (show i + 1 < X.1 by omega) hL) ?_
  refine q_aload_n rfl rfl ?_
  refine q_iload_n rfl rfl ?_
  refine q_iconst (v := 2) rfl rfl ?_
  refine q_iadd rfl ?_
  refine q_iaload_s rfl (sc_ix (k := 2) (show i + 2 < X.1 by omega) hL) ?_
  refine q_aload_n rfl rfl ?_
  refine q_iload_n rfl rfl ?_
  refine q_iconst (v := 3) rfl rfl ?_
  refine q_iadd rfl ?_
  refine q_iaload_s rfl (sc_ix (k := 3) (show i + 3 < X.1 by omega) hL) ?_
  refine q_callV3 rfl hx_51 (Nat.le_of_ble_eq_true rfl) (Nat.le_of_ble_eq_true rfl) (e2) ?_
  refine q_icmp_eq rfl (fun hc1267 => ?_) (fun hc1267 => ?_)
  · exact next _ _ _ _ _ hr2
  · exact absurd rfl hc1267
set_option maxRecDepth 100000 in
theorem law_34 {X : XX} {R : XR} {P : Option Value → XH → Prop} {i : Nat} (hL : X.1 ≤ 384) (hi : i + 6 ≤ X.1) (hop : Op_34 X R) {I A : Nat → Nat → Int32} {J B : Nat → Nat → Int64} {F : Nat → Nat} (hr : R I A J B F) (next : ∀ I A J B F, R I A J B F → Wp X xT 8 mL_law 1462 [some (.ref 1000), some (.ref 0), some (.ref 51), some (.int (nI i))] [] (HX I A J B F) P) : Wp X xT 8 mL_law 1272 [some (.ref 1000), some (.ref 0), some (.ref 51), some (.int (nI i))] [] (HX I A J B F) P := by
  obtain ⟨r, I1, A1, J1, B1, F1, I2, A2, J2, B2, F2, e1, e2, hr2⟩ := hop (X.2 (nI i + 1).toNatClampNeg) (X.2 (nI i + 2).toNatClampNeg) (X.2 (nI i + 3).toNatClampNeg) _ _ _ _ _ hr
  refine q_aload_n rfl rfl ?_
  refine q_aload_n rfl rfl ?_
  refine q_iload_n rfl rfl ?_
  refine q_iconst (v := 1) rfl rfl ?_
  refine q_iadd rfl ?_
  refine q_iaload_s rfl (sc_ix (k := 1) (show i + 1 < X.1 by omega) hL) ?_
  refine q_aload_n rfl rfl ?_
  refine q_iload_n rfl rfl ?_
  refine q_iconst (v := 2) rfl rfl ?_
  refine q_iadd rfl ?_
  refine q_iaload_s rfl (sc_ix (k := 2) (show i + 2 < X.1 by omega) hL) ?_
  refine q_aload_n rfl rfl ?_
  refine q_iload_n rfl rfl ?_
  refine q_iconst (v := 3) rfl rfl ?_
  refine q_iadd rfl ?_
  refine q_iaload_s rfl (sc_ix (k := 3) (show i + 3 < X.1 by omega) hL) ?_
  refine q_callV3 rfl hx_0 (Nat.le_of_ble_eq_true rfl) (Nat.le_of_ble_eq_true rfl) (e1) ?_
  refine q_aload_n rfl rfl ?_
  refine q_aload_n rfl rfl ?_
  refine q_iload_n rfl rfl ?_
  refine q_iconst (v := 1) rfl rfl ?_
  refine q_iadd rfl ?_
  refine q_iaload_s rfl (sc_ix (k := 1) (show i + 1 < X.1 by omega) hL) ?_
  refine q_aload_n rfl rfl ?_
  refine q_iload_n rfl rfl ?_
  refine q_iconst (v := 2) rfl rfl ?_
  refine q_iadd rfl ?_
  refine q_iaload_s rfl (sc_ix (k := 2) (show i + 2 < X.1 by omega) hL) ?_
  refine q_aload_n rfl rfl ?_
  refine q_iload_n rfl rfl ?_
  refine q_iconst (v := 3) rfl rfl ?_
  refine q_iadd rfl ?_
  refine q_iaload_s rfl (sc_ix (k := 3) (show i + 3 < X.1 by omega) hL) ?_
  refine q_callV3 rfl hx_51 (Nat.le_of_ble_eq_true rfl) (Nat.le_of_ble_eq_true rfl) (e2) ?_
  refine q_icmp_eq rfl (fun hc1310 => ?_) (fun hc1310 => ?_)
  · exact next _ _ _ _ _ hr2
  · exact absurd rfl hc1310
set_option maxRecDepth 100000 in
theorem law_35 {X : XX} {R : XR} {P : Option Value → XH → Prop} {i : Nat} (hL : X.1 ≤ 384) (hi : i + 6 ≤ X.1) (hop : Op_35 X R) {I A : Nat → Nat → Int32} {J B : Nat → Nat → Int64} {F : Nat → Nat} (hr : R I A J B F) (next : ∀ I A J B F, R I A J B F → Wp X xT 8 mL_law 1462 [some (.ref 1000), some (.ref 0), some (.ref 51), some (.int (nI i))] [] (HX I A J B F) P) : Wp X xT 8 mL_law 1315 [some (.ref 1000), some (.ref 0), some (.ref 51), some (.int (nI i))] [] (HX I A J B F) P := by
  obtain ⟨r, I1, A1, J1, B1, F1, I2, A2, J2, B2, F2, e1, e2, hr2⟩ := hop (X.2 (nI i + 1).toNatClampNeg) (X.2 (nI i + 2).toNatClampNeg) _ _ _ _ _ hr
  refine q_aload_n rfl rfl ?_
  refine q_aload_n rfl rfl ?_
  refine q_iload_n rfl rfl ?_
  refine q_iconst (v := 1) rfl rfl ?_
  refine q_iadd rfl ?_
  refine q_iaload_s rfl (sc_ix (k := 1) (show i + 1 < X.1 by omega) hL) ?_
  refine q_aload_n rfl rfl ?_
  refine q_iload_n rfl rfl ?_
  refine q_iconst (v := 2) rfl rfl ?_
  refine q_iadd rfl ?_
  refine q_iaload_s rfl (sc_ix (k := 2) (show i + 2 < X.1 by omega) hL) ?_
  refine q_callV2 rfl hx_0 (Nat.le_of_ble_eq_true rfl) (Nat.le_of_ble_eq_true rfl) (e1) ?_
  refine q_aload_n rfl rfl ?_
  refine q_aload_n rfl rfl ?_
  refine q_iload_n rfl rfl ?_
  refine q_iconst (v := 1) rfl rfl ?_
  refine q_iadd rfl ?_
  refine q_iaload_s rfl (sc_ix (k := 1) (show i + 1 < X.1 by omega) hL) ?_
  refine q_aload_n rfl rfl ?_
  refine q_iload_n rfl rfl ?_
  refine q_iconst (v := 2) rfl rfl ?_
  refine q_iadd rfl ?_
  refine q_iaload_s rfl (sc_ix (k := 2) (show i + 2 < X.1 by omega) hL) ?_
  refine q_callV2 rfl hx_51 (Nat.le_of_ble_eq_true rfl) (Nat.le_of_ble_eq_true rfl) (e2) ?_
  refine q_icmp_eq rfl (fun hc1343 => ?_) (fun hc1343 => ?_)
  · exact next _ _ _ _ _ hr2
  · exact absurd rfl hc1343
set_option maxRecDepth 100000 in
theorem law_36 {X : XX} {R : XR} {P : Option Value → XH → Prop} {i : Nat} (hL : X.1 ≤ 384) (hi : i + 6 ≤ X.1) (hop : Op_36 X R) {I A : Nat → Nat → Int32} {J B : Nat → Nat → Int64} {F : Nat → Nat} (hr : R I A J B F) (next : ∀ I A J B F, R I A J B F → Wp X xT 8 mL_law 1462 [some (.ref 1000), some (.ref 0), some (.ref 51), some (.int (nI i))] [] (HX I A J B F) P) : Wp X xT 8 mL_law 1348 [some (.ref 1000), some (.ref 0), some (.ref 51), some (.int (nI i))] [] (HX I A J B F) P := by
  obtain ⟨r, I1, A1, J1, B1, F1, I2, A2, J2, B2, F2, e1, e2, hr2⟩ := hop  _ _ _ _ _ hr
  refine q_aload_n rfl rfl ?_
  refine q_callV0 rfl hx_0 (Nat.le_of_ble_eq_true rfl) (Nat.le_of_ble_eq_true rfl) (e1) ?_
  refine q_aload_n rfl rfl ?_
  refine q_callV0 rfl hx_51 (Nat.le_of_ble_eq_true rfl) (Nat.le_of_ble_eq_true rfl) (e2) ?_
  refine q_icmp_eq rfl (fun hc1356 => ?_) (fun hc1356 => ?_)
  · exact next _ _ _ _ _ hr2
  · exact absurd rfl hc1356
set_option maxRecDepth 100000 in
theorem law_37 {X : XX} {R : XR} {P : Option Value → XH → Prop} {i : Nat} (hL : X.1 ≤ 384) (hi : i + 6 ≤ X.1) (hop : Op_37 X R) {I A : Nat → Nat → Int32} {J B : Nat → Nat → Int64} {F : Nat → Nat} (hr : R I A J B F) (next : ∀ I A J B F, R I A J B F → Wp X xT 8 mL_law 1462 [some (.ref 1000), some (.ref 0), some (.ref 51), some (.int (nI i))] [] (HX I A J B F) P) : Wp X xT 8 mL_law 1361 [some (.ref 1000), some (.ref 0), some (.ref 51), some (.int (nI i))] [] (HX I A J B F) P := by
  obtain ⟨r, I1, A1, J1, B1, F1, I2, A2, J2, B2, F2, e1, e2, hr2⟩ := hop  _ _ _ _ _ hr
  refine q_aload_n rfl rfl ?_
  refine q_callV0 rfl hx_0 (Nat.le_of_ble_eq_true rfl) (Nat.le_of_ble_eq_true rfl) (e1) ?_
  refine q_aload_n rfl rfl ?_
  refine q_callV0 rfl hx_51 (Nat.le_of_ble_eq_true rfl) (Nat.le_of_ble_eq_true rfl) (e2) ?_
  refine q_lcmp rfl ?_
  refine q_if_eq rfl (fun hc1370 => ?_) (fun hc1370 => ?_)
  · exact next _ _ _ _ _ hr2
  · exact absurd (by simp [lg_cmp]) hc1370
set_option maxRecDepth 100000 in
theorem law_38 {X : XX} {R : XR} {P : Option Value → XH → Prop} {i : Nat} (hL : X.1 ≤ 384) (hi : i + 6 ≤ X.1) (hop : Op_38 X R) {I A : Nat → Nat → Int32} {J B : Nat → Nat → Int64} {F : Nat → Nat} (hr : R I A J B F) (next : ∀ I A J B F, R I A J B F → Wp X xT 8 mL_law 1462 [some (.ref 1000), some (.ref 0), some (.ref 51), some (.int (nI i))] [] (HX I A J B F) P) : Wp X xT 8 mL_law 1375 [some (.ref 1000), some (.ref 0), some (.ref 51), some (.int (nI i))] [] (HX I A J B F) P := by
  obtain ⟨r, I1, A1, J1, B1, F1, I2, A2, J2, B2, F2, e1, e2, hr2⟩ := hop  _ _ _ _ _ hr
  refine q_aload_n rfl rfl ?_
  refine q_callV0 rfl hx_0 (Nat.le_of_ble_eq_true rfl) (Nat.le_of_ble_eq_true rfl) (e1) ?_
  refine q_aload_n rfl rfl ?_
  refine q_callV0 rfl hx_51 (Nat.le_of_ble_eq_true rfl) (Nat.le_of_ble_eq_true rfl) (e2) ?_
  refine q_lcmp rfl ?_
  refine q_if_eq rfl (fun hc1384 => ?_) (fun hc1384 => ?_)
  · exact next _ _ _ _ _ hr2
  · exact absurd (by simp [lg_cmp]) hc1384
set_option maxRecDepth 100000 in
theorem law_39 {X : XX} {R : XR} {P : Option Value → XH → Prop} {i : Nat} (hL : X.1 ≤ 384) (hi : i + 6 ≤ X.1) (hop : Op_39 X R) {I A : Nat → Nat → Int32} {J B : Nat → Nat → Int64} {F : Nat → Nat} (hr : R I A J B F) (next : ∀ I A J B F, R I A J B F → Wp X xT 8 mL_law 1462 [some (.ref 1000), some (.ref 0), some (.ref 51), some (.int (nI i))] [] (HX I A J B F) P) : Wp X xT 8 mL_law 1389 [some (.ref 1000), some (.ref 0), some (.ref 51), some (.int (nI i))] [] (HX I A J B F) P := by
  obtain ⟨r, I1, A1, J1, B1, F1, I2, A2, J2, B2, F2, e1, e2, hr2⟩ := hop (X.2 (nI i + 1).toNatClampNeg) _ _ _ _ _ hr
  refine q_aload_n rfl rfl ?_
  refine q_aload_n rfl rfl ?_
  refine q_iload_n rfl rfl ?_
  refine q_iconst (v := 1) rfl rfl ?_
  refine q_iadd rfl ?_
  refine q_iaload_s rfl (sc_ix (k := 1) (show i + 1 < X.1 by omega) hL) ?_
  refine q_callV1 rfl hx_0 (Nat.le_of_ble_eq_true rfl) (Nat.le_of_ble_eq_true rfl) (e1) ?_
  refine q_aload_n rfl rfl ?_
  refine q_aload_n rfl rfl ?_
  refine q_iload_n rfl rfl ?_
  refine q_iconst (v := 1) rfl rfl ?_
  refine q_iadd rfl ?_
  refine q_iaload_s rfl (sc_ix (k := 1) (show i + 1 < X.1 by omega) hL) ?_
  refine q_callV1 rfl hx_51 (Nat.le_of_ble_eq_true rfl) (Nat.le_of_ble_eq_true rfl) (e2) ?_
  refine q_icmp_eq rfl (fun hc1407 => ?_) (fun hc1407 => ?_)
  · exact next _ _ _ _ _ hr2
  · exact absurd rfl hc1407
set_option maxRecDepth 100000 in
theorem law_40 {X : XX} {R : XR} {P : Option Value → XH → Prop} {i : Nat} (hL : X.1 ≤ 384) (hi : i + 6 ≤ X.1) (hop : Op_40 X R) {I A : Nat → Nat → Int32} {J B : Nat → Nat → Int64} {F : Nat → Nat} (hr : R I A J B F) (next : ∀ I A J B F, R I A J B F → Wp X xT 8 mL_law 1462 [some (.ref 1000), some (.ref 0), some (.ref 51), some (.int (nI i))] [] (HX I A J B F) P) : Wp X xT 8 mL_law 1412 [some (.ref 1000), some (.ref 0), some (.ref 51), some (.int (nI i))] [] (HX I A J B F) P := by
  obtain ⟨r, I1, A1, J1, B1, F1, I2, A2, J2, B2, F2, e1, e2, hr2⟩ := hop  _ _ _ _ _ hr
  refine q_aload_n rfl rfl ?_
  refine q_callV0 rfl hx_0 (Nat.le_of_ble_eq_true rfl) (Nat.le_of_ble_eq_true rfl) (e1) ?_
  refine q_aload_n rfl rfl ?_
  refine q_callV0 rfl hx_51 (Nat.le_of_ble_eq_true rfl) (Nat.le_of_ble_eq_true rfl) (e2) ?_
  refine q_icmp_eq rfl (fun hc1420 => ?_) (fun hc1420 => ?_)
  · exact next _ _ _ _ _ hr2
  · exact absurd rfl hc1420
set_option maxRecDepth 100000 in
theorem law_41 {X : XX} {R : XR} {P : Option Value → XH → Prop} {i : Nat} (hL : X.1 ≤ 384) (hi : i + 6 ≤ X.1) (hop : Op_41 X R) {I A : Nat → Nat → Int32} {J B : Nat → Nat → Int64} {F : Nat → Nat} (hr : R I A J B F) (next : ∀ I A J B F, R I A J B F → Wp X xT 8 mL_law 1462 [some (.ref 1000), some (.ref 0), some (.ref 51), some (.int (nI i))] [] (HX I A J B F) P) : Wp X xT 8 mL_law 1425 [some (.ref 1000), some (.ref 0), some (.ref 51), some (.int (nI i))] [] (HX I A J B F) P := by
  obtain ⟨r, I1, A1, J1, B1, F1, I2, A2, J2, B2, F2, e1, e2, hr2⟩ := hop (X.2 (nI i + 1).toNatClampNeg) _ _ _ _ _ hr
  refine q_aload_n rfl rfl ?_
  refine q_aload_n rfl rfl ?_
  refine q_iload_n rfl rfl ?_
  refine q_iconst (v := 1) rfl rfl ?_
  refine q_iadd rfl ?_
  refine q_iaload_s rfl (sc_ix (k := 1) (show i + 1 < X.1 by omega) hL) ?_
  refine q_callV1 rfl hx_0 (Nat.le_of_ble_eq_true rfl) (Nat.le_of_ble_eq_true rfl) (e1) ?_
  refine q_aload_n rfl rfl ?_
  refine q_aload_n rfl rfl ?_
  refine q_iload_n rfl rfl ?_
  refine q_iconst (v := 1) rfl rfl ?_
  refine q_iadd rfl ?_
  refine q_iaload_s rfl (sc_ix (k := 1) (show i + 1 < X.1 by omega) hL) ?_
  refine q_callV1 rfl hx_51 (Nat.le_of_ble_eq_true rfl) (Nat.le_of_ble_eq_true rfl) (e2) ?_
  refine q_icmp_eq rfl (fun hc1443 => ?_) (fun hc1443 => ?_)
  · exact next _ _ _ _ _ hr2
  · exact absurd rfl hc1443
set_option maxRecDepth 100000 in
theorem law_42 {X : XX} {R : XR} {P : Option Value → XH → Prop} {i : Nat} (hL : X.1 ≤ 384) (hi : i + 6 ≤ X.1) (hop : Op_42 X R) {I A : Nat → Nat → Int32} {J B : Nat → Nat → Int64} {F : Nat → Nat} (hr : R I A J B F) (next : ∀ I A J B F, R I A J B F → Wp X xT 8 mL_law 1462 [some (.ref 1000), some (.ref 0), some (.ref 51), some (.int (nI i))] [] (HX I A J B F) P) : Wp X xT 8 mL_law 1448 [some (.ref 1000), some (.ref 0), some (.ref 51), some (.int (nI i))] [] (HX I A J B F) P := by
  obtain ⟨r, I1, A1, J1, B1, F1, I2, A2, J2, B2, F2, e1, e2, hr2⟩ := hop  _ _ _ _ _ hr
  refine q_aload_n rfl rfl ?_
  refine q_callV0 rfl hx_0 (Nat.le_of_ble_eq_true rfl) (Nat.le_of_ble_eq_true rfl) (e1) ?_
  refine q_aload_n rfl rfl ?_
  refine q_callV0 rfl hx_51 (Nat.le_of_ble_eq_true rfl) (Nat.le_of_ble_eq_true rfl) (e2) ?_
  refine q_lcmp rfl ?_
  refine q_if_eq rfl (fun hc1457 => ?_) (fun hc1457 => ?_)
  · exact next _ _ _ _ _ hr2
  · exact absurd (by simp [lg_cmp]) hc1457
def OpsAll (X : XX) (R : XR) : Prop := Op_0 X R ∧ Op_1 X R ∧ Op_2 X R ∧ Op_3 X R ∧ Op_4 X R ∧ Op_5 X R ∧ Op_6 X R ∧ Op_7 X R ∧ Op_8 X R ∧ Op_9 X R ∧ Op_10 X R ∧ Op_11 X R ∧ Op_12 X R ∧ Op_13 X R ∧ Op_14 X R ∧ Op_15 X R ∧ Op_16 X R ∧ Op_17 X R ∧ Op_18 X R ∧ Op_19 X R ∧ Op_20 X R ∧ Op_21 X R ∧ Op_22 X R ∧ Op_23 X R ∧ Op_24 X R ∧ Op_25 X R ∧ Op_26 X R ∧ Op_27 X R ∧ Op_28 X R ∧ Op_29 X R ∧ Op_30 X R ∧ Op_31 X R ∧ Op_32 X R ∧ Op_33 X R ∧ Op_34 X R ∧ Op_35 X R ∧ Op_36 X R ∧ Op_37 X R ∧ Op_38 X R ∧ Op_39 X R ∧ Op_40 X R ∧ Op_41 X R ∧ Op_42 X R
theorem lw_cut {i L : Nat} (hL : L ≤ 384) (hi : i ≤ 390) (h : ¬ nI L - 6 < nI i) : i + 6 ≤ L := by
  apply Classical.byContradiction
  intro hn
  apply h
  rw [Int32.lt_iff_toInt_lt, nI_toInt (by omega)]
  have e1 := pk_sub_toInt (a := L) (b := 6) (by omega) (by omega)
  have e2 : nI L - 6 = nI L - nI 6 := rfl
  rw [e2, e1]
  omega
set_option maxRecDepth 100000 in
set_option maxHeartbeats 4000000 in
theorem law_loop {X : XX} {R : XR} (hL : X.1 ≤ 384) (ops : OpsAll X R) : ∀ (n i : Nat) (I A : Nat → Nat → Int32) (J B : Nat → Nat → Int64) (F : Nat → Nat), i ≤ 390 → X.1 + 6 ≤ i + 6 * n → R I A J B F → Wp X xT 8 mL_law 18 [some (.ref 1000), some (.ref 0), some (.ref 51), some (.int (nI i))] [] (HX I A J B F) (fun r h' => r = some (.int 1) ∧ h'.length ≤ 600000 ∧ x_ss h' ≤ 7302250) := by
  intro n
  induction n with
  | zero =>
    intro i I A J B F hi hn hr
    refine q_iload_n rfl rfl ?_
    refine q_aload_n rfl rfl ?_
    refine q_alen_s rfl ?_
    refine q_bipush (v := 6) rfl rfl ?_
    refine q_isub rfl ?_
    refine q_icmp_gt rfl (fun hc24 => ?_) (fun hc24 => ?_)
    · refine q_iconst (v := 1) rfl rfl ?_
      refine q_zret rfl rfl (by decide) ?_
      refine ⟨rfl, Nat.le_of_ble_eq_true rfl, Nat.le_of_ble_eq_true rfl⟩
    · exact absurd (lw_cut hL hi hc24) (by omega)
  | succ n ih =>
    intro i I A J B F hi hn hr
    refine q_iload_n rfl rfl ?_
    refine q_aload_n rfl rfl ?_
    refine q_alen_s rfl ?_
    refine q_bipush (v := 6) rfl rfl ?_
    refine q_isub rfl ?_
    refine q_icmp_gt rfl (fun hc24 => ?_) (fun hc24 => ?_)
    · refine q_iconst (v := 1) rfl rfl ?_
      refine q_zret rfl rfl (by decide) ?_
      refine ⟨rfl, Nat.le_of_ble_eq_true rfl, Nat.le_of_ble_eq_true rfl⟩
    · refine q_aload_n rfl rfl ?_
      refine q_iload_n rfl rfl ?_
      refine q_iaload_s rfl (f_ixk (show i < X.1 by have := lw_cut hL hi hc24; omega) (by omega)) ?_
      refine q_bipush (v := 63) rfl rfl ?_
      refine q_iand rfl ?_
      have hi6 := lw_cut hL hi hc24
      have next : ∀ I A J B F, R I A J B F → Wp X xT 8 mL_law 1462 [some (.ref 1000), some (.ref 0), some (.ref 51), some (.int (nI i))] [] (HX I A J B F) (fun r h' => r = some (.int 1) ∧ h'.length ≤ 600000 ∧ x_ss h' ≤ 7302250) := by
        intro I A J B F hr
        refine q_iinc (v := nI (i + 6)) (L' := [_, _, _, _]) rfl rfl (nI_add i 6) rfl ?_
        refine q_goto rfl ?_
        exact ih (i + 6) I A J B F (by omega) (by omega) hr
      obtain ⟨j, hj, ej⟩ := pk_andE (X.2 (nI i).toNatClampNeg) (m := 63) 6 (by decide)
      have ex : (X.2 (nI i).toNatClampNeg &&& 63).toInt = (j : Int) := by rw [ej]; exact nI_toInt (by omega)
      obtain ⟨o0, o1, o2, o3, o4, o5, o6, o7, o8, o9, o10, o11, o12, o13, o14, o15, o16, o17, o18, o19, o20, o21, o22, o23, o24, o25, o26, o27, o28, o29, o30, o31, o32, o33, o34, o35, o36, o37, o38, o39, o40, o41, o42⟩ := ops
      by_cases h0 : j = 0
      · subst h0
        exact q_tsw (t := 220) rfl (by rw [x_sw_i ex]; decide) (law_0 hL hi6 o0 hr next)
      by_cases h1 : j = 1
      · subst h1
        exact q_tsw (t := 253) rfl (by rw [x_sw_i ex]; decide) (law_1 hL hi6 o1 hr next)
      by_cases h2 : j = 2
      · subst h2
        exact q_tsw (t := 296) rfl (by rw [x_sw_i ex]; decide) (law_2 hL hi6 o2 hr next)
      by_cases h3 : j = 3
      · subst h3
        exact q_tsw (t := 329) rfl (by rw [x_sw_i ex]; decide) (law_3 hL hi6 o3 hr next)
      by_cases h4 : j = 4
      · subst h4
        exact q_tsw (t := 352) rfl (by rw [x_sw_i ex]; decide) (law_4 hL hi6 o4 hr next)
      by_cases h5 : j = 5
      · subst h5
        exact q_tsw (t := 415) rfl (by rw [x_sw_i ex]; decide) (law_5 hL hi6 o5 hr next)
      by_cases h6 : j = 6
      · subst h6
        exact q_tsw (t := 438) rfl (by rw [x_sw_i ex]; decide) (law_6 hL hi6 o6 hr next)
      by_cases h7 : j = 7
      · subst h7
        exact q_tsw (t := 471) rfl (by rw [x_sw_i ex]; decide) (law_7 hL hi6 o7 hr next)
      by_cases h8 : j = 8
      · subst h8
        exact q_tsw (t := 514) rfl (by rw [x_sw_i ex]; decide) (law_8 hL hi6 o8 hr next)
      by_cases h9 : j = 9
      · subst h9
        exact q_tsw (t := 537) rfl (by rw [x_sw_i ex]; decide) (law_9 hL hi6 o9 hr next)
      by_cases h10 : j = 10
      · subst h10
        exact q_tsw (t := 560) rfl (by rw [x_sw_i ex]; decide) (law_10 hL hi6 o10 hr next)
      by_cases h11 : j = 11
      · subst h11
        exact q_tsw (t := 593) rfl (by rw [x_sw_i ex]; decide) (law_11 hL hi6 o11 hr next)
      by_cases h12 : j = 12
      · subst h12
        exact q_tsw (t := 626) rfl (by rw [x_sw_i ex]; decide) (law_12 hL hi6 o12 hr next)
      by_cases h13 : j = 13
      · subst h13
        exact q_tsw (t := 639) rfl (by rw [x_sw_i ex]; decide) (law_13 hL hi6 o13 hr next)
      by_cases h14 : j = 14
      · subst h14
        exact q_tsw (t := 662) rfl (by rw [x_sw_i ex]; decide) (law_14 hL hi6 o14 hr next)
      by_cases h15 : j = 15
      · subst h15
        exact q_tsw (t := 685) rfl (by rw [x_sw_i ex]; decide) (law_15 hL hi6 o15 hr next)
      by_cases h16 : j = 16
      · subst h16
        exact q_tsw (t := 708) rfl (by rw [x_sw_i ex]; decide) (law_16 hL hi6 o16 hr next)
      by_cases h17 : j = 17
      · subst h17
        exact q_tsw (t := 731) rfl (by rw [x_sw_i ex]; decide) (law_17 hL hi6 o17 hr next)
      by_cases h18 : j = 18
      · subst h18
        exact q_tsw (t := 764) rfl (by rw [x_sw_i ex]; decide) (law_18 hL hi6 o18 hr next)
      by_cases h19 : j = 19
      · subst h19
        exact q_tsw (t := 797) rfl (by rw [x_sw_i ex]; decide) (law_19 hL hi6 o19 hr next)
      by_cases h20 : j = 20
      · subst h20
        exact q_tsw (t := 820) rfl (by rw [x_sw_i ex]; decide) (law_20 hL hi6 o20 hr next)
      by_cases h21 : j = 21
      · subst h21
        exact q_tsw (t := 843) rfl (by rw [x_sw_i ex]; decide) (law_21 hL hi6 o21 hr next)
      by_cases h22 : j = 22
      · subst h22
        exact q_tsw (t := 866) rfl (by rw [x_sw_i ex]; decide) (law_22 hL hi6 o22 hr next)
      by_cases h23 : j = 23
      · subst h23
        exact q_tsw (t := 889) rfl (by rw [x_sw_i ex]; decide) (law_23 hL hi6 o23 hr next)
      by_cases h24 : j = 24
      · subst h24
        exact q_tsw (t := 932) rfl (by rw [x_sw_i ex]; decide) (law_24 hL hi6 o24 hr next)
      by_cases h25 : j = 25
      · subst h25
        exact q_tsw (t := 965) rfl (by rw [x_sw_i ex]; decide) (law_25 hL hi6 o25 hr next)
      by_cases h26 : j = 26
      · subst h26
        exact q_tsw (t := 1008) rfl (by rw [x_sw_i ex]; decide) (law_26 hL hi6 o26 hr next)
      by_cases h27 : j = 27
      · subst h27
        exact q_tsw (t := 1041) rfl (by rw [x_sw_i ex]; decide) (law_27 hL hi6 o27 hr next)
      by_cases h28 : j = 28
      · subst h28
        exact q_tsw (t := 1064) rfl (by rw [x_sw_i ex]; decide) (law_28 hL hi6 o28 hr next)
      by_cases h29 : j = 29
      · subst h29
        exact q_tsw (t := 1097) rfl (by rw [x_sw_i ex]; decide) (law_29 hL hi6 o29 hr next)
      by_cases h30 : j = 30
      · subst h30
        exact q_tsw (t := 1130) rfl (by rw [x_sw_i ex]; decide) (law_30 hL hi6 o30 hr next)
      by_cases h31 : j = 31
      · subst h31
        exact q_tsw (t := 1163) rfl (by rw [x_sw_i ex]; decide) (law_31 hL hi6 o31 hr next)
      by_cases h32 : j = 32
      · subst h32
        exact q_tsw (t := 1196) rfl (by rw [x_sw_i ex]; decide) (law_32 hL hi6 o32 hr next)
      by_cases h33 : j = 33
      · subst h33
        exact q_tsw (t := 1229) rfl (by rw [x_sw_i ex]; decide) (law_33 hL hi6 o33 hr next)
      by_cases h34 : j = 34
      · subst h34
        exact q_tsw (t := 1272) rfl (by rw [x_sw_i ex]; decide) (law_34 hL hi6 o34 hr next)
      by_cases h35 : j = 35
      · subst h35
        exact q_tsw (t := 1315) rfl (by rw [x_sw_i ex]; decide) (law_35 hL hi6 o35 hr next)
      by_cases h36 : j = 36
      · subst h36
        exact q_tsw (t := 1348) rfl (by rw [x_sw_i ex]; decide) (law_36 hL hi6 o36 hr next)
      by_cases h37 : j = 37
      · subst h37
        exact q_tsw (t := 1361) rfl (by rw [x_sw_i ex]; decide) (law_37 hL hi6 o37 hr next)
      by_cases h38 : j = 38
      · subst h38
        exact q_tsw (t := 1375) rfl (by rw [x_sw_i ex]; decide) (law_38 hL hi6 o38 hr next)
      by_cases h39 : j = 39
      · subst h39
        exact q_tsw (t := 1389) rfl (by rw [x_sw_i ex]; decide) (law_39 hL hi6 o39 hr next)
      by_cases h40 : j = 40
      · subst h40
        exact q_tsw (t := 1412) rfl (by rw [x_sw_i ex]; decide) (law_40 hL hi6 o40 hr next)
      by_cases h41 : j = 41
      · subst h41
        exact q_tsw (t := 1425) rfl (by rw [x_sw_i ex]; decide) (law_41 hL hi6 o41 hr next)
      by_cases h42 : j = 42
      · subst h42
        exact q_tsw (t := 1448) rfl (by rw [x_sw_i ex]; decide) (law_42 hL hi6 o42 hr next)
      exact q_tsw (t := 1462) rfl (by rw [x_sw_i ex]; unfold x_swI; rw [if_pos (Or.inr (by omega))]; decide) (next _ _ _ _ _ hr)
theorem x_law_of {R : XR} (h0 : R x_I0 x_A0 x_J0 x_B0 x_F0) (ops : ∀ X : XX, OpsAll X R) : x_law := fun X hL => x_law_head (law_loop hL (ops X) 66 0 _ _ _ _ _ (by omega) (by omega) h0)
end
