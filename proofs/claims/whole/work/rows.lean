section
-- ===== PART A: goes FIRST, ahead of the names: the tables' words, and 'selects' of the private methods out of them =====
/-- a private method of a class that the tables say can be made, by its rows of tables_1 -/
def lw_okq (q : MethodName × Nat) : Prop := (q.1.cls ≠ "java/lang/invoke/MethodHandle" ∧ q.1.cls ≠ "java/lang/invoke/VarHandle") ∧ Cond.instantiable q.1.cls q.2 ∈ tables_1 ∧ Cond.privateMethod q.1 ∈ tables_1 ∧ Cond.instanceMethod q.1 ∈ tables_1
theorem lw_p0 : lw_okq (⟨"GlassHall", "unplannedArea", "()J"⟩, 11) := ⟨⟨by decide +kernel, by decide +kernel⟩, List.mem_of_getElem? (i := 21) (by decide +kernel), List.mem_of_getElem? (i := 306) (by decide +kernel), List.mem_of_getElem? (i := 307) (by decide +kernel)⟩
theorem lw_p1 : lw_okq (⟨"GlassHall", "waitingArea", "()J"⟩, 11) := ⟨⟨by decide +kernel, by decide +kernel⟩, List.mem_of_getElem? (i := 21) (by decide +kernel), List.mem_of_getElem? (i := 319) (by decide +kernel), List.mem_of_getElem? (i := 320) (by decide +kernel)⟩
theorem lw_p2 : lw_okq (⟨"GlassHall", "countSheets", "(Z)I"⟩, 11) := ⟨⟨by decide +kernel, by decide +kernel⟩, List.mem_of_getElem? (i := 21) (by decide +kernel), List.mem_of_getElem? (i := 335) (by decide +kernel), List.mem_of_getElem? (i := 336) (by decide +kernel)⟩
theorem lw_p3 : lw_okq (⟨"java/lang/Throwable", "fillInStackTrace", "(I)Ljava/lang/Throwable;"⟩, 6) := ⟨⟨by decide +kernel, by decide +kernel⟩, List.mem_of_getElem? (i := 390) (by decide +kernel), List.mem_of_getElem? (i := 388) (by decide +kernel), List.mem_of_getElem? (i := 389) (by decide +kernel)⟩
theorem lw_p4 : lw_okq (⟨"GlassHall", "findFreeSlot", "()LGlassHall$Sheet;"⟩, 11) := ⟨⟨by decide +kernel, by decide +kernel⟩, List.mem_of_getElem? (i := 21) (by decide +kernel), List.mem_of_getElem? (i := 415) (by decide +kernel), List.mem_of_getElem? (i := 416) (by decide +kernel)⟩
theorem lw_p5 : lw_okq (⟨"GlassHall", "bringIn", "(LGlassHall$Sheet;)I"⟩, 11) := ⟨⟨by decide +kernel, by decide +kernel⟩, List.mem_of_getElem? (i := 21) (by decide +kernel), List.mem_of_getElem? (i := 438) (by decide +kernel), List.mem_of_getElem? (i := 439) (by decide +kernel)⟩
theorem lw_p6 : lw_okq (⟨"GlassHall", "findSheet", "(I)LGlassHall$Sheet;"⟩, 11) := ⟨⟨by decide +kernel, by decide +kernel⟩, List.mem_of_getElem? (i := 21) (by decide +kernel), List.mem_of_getElem? (i := 450) (by decide +kernel), List.mem_of_getElem? (i := 451) (by decide +kernel)⟩
theorem lw_p7 : lw_okq (⟨"GlassHall$Strips", "stackColumn", "(LGlassHall$Glass;)I"⟩, 7) := ⟨⟨by decide +kernel, by decide +kernel⟩, List.mem_of_getElem? (i := 144) (by decide +kernel), List.mem_of_getElem? (i := 543) (by decide +kernel), List.mem_of_getElem? (i := 544) (by decide +kernel)⟩
theorem lw_p8 : lw_okq (⟨"GlassHall$Strips", "takeFirst", "(LGlassHall$Glass;)Z"⟩, 7) := ⟨⟨by decide +kernel, by decide +kernel⟩, List.mem_of_getElem? (i := 144) (by decide +kernel), List.mem_of_getElem? (i := 547) (by decide +kernel), List.mem_of_getElem? (i := 548) (by decide +kernel)⟩
theorem lw_p9 : lw_okq (⟨"GlassHall$Strips", "take", "(LGlassHall$Glass;IZ)Z"⟩, 7) := ⟨⟨by decide +kernel, by decide +kernel⟩, List.mem_of_getElem? (i := 144) (by decide +kernel), List.mem_of_getElem? (i := 551) (by decide +kernel), List.mem_of_getElem? (i := 552) (by decide +kernel)⟩
theorem lw_p10 : lw_okq (⟨"GlassHall", "adoptLayout", "(LGlassHall$Sheet;)I"⟩, 11) := ⟨⟨by decide +kernel, by decide +kernel⟩, List.mem_of_getElem? (i := 21) (by decide +kernel), List.mem_of_getElem? (i := 571) (by decide +kernel), List.mem_of_getElem? (i := 572) (by decide +kernel)⟩
theorem lw_p11 : lw_okq (⟨"GlassHall$Tree", "add", "(IIIIII)I"⟩, 9) := ⟨⟨by decide +kernel, by decide +kernel⟩, List.mem_of_getElem? (i := 198) (by decide +kernel), List.mem_of_getElem? (i := 606) (by decide +kernel), List.mem_of_getElem? (i := 607) (by decide +kernel)⟩
theorem lw_p12 : lw_okq (⟨"GlassHall$Tree", "growColumn", "(LGlassHall$Layout;IIII)V"⟩, 9) := ⟨⟨by decide +kernel, by decide +kernel⟩, List.mem_of_getElem? (i := 198) (by decide +kernel), List.mem_of_getElem? (i := 610) (by decide +kernel), List.mem_of_getElem? (i := 611) (by decide +kernel)⟩
theorem lw_p13 : lw_okq (⟨"GlassHall$Tree", "growRow", "(LGlassHall$Layout;IIIIII)V"⟩, 9) := ⟨⟨by decide +kernel, by decide +kernel⟩, List.mem_of_getElem? (i := 198) (by decide +kernel), List.mem_of_getElem? (i := 619) (by decide +kernel), List.mem_of_getElem? (i := 620) (by decide +kernel)⟩
theorem lw_p14 : lw_okq (⟨"GlassHall$Tree", "growCell", "(LGlassHall$Layout;IIII)V"⟩, 9) := ⟨⟨by decide +kernel, by decide +kernel⟩, List.mem_of_getElem? (i := 198) (by decide +kernel), List.mem_of_getElem? (i := 624) (by decide +kernel), List.mem_of_getElem? (i := 625) (by decide +kernel)⟩
theorem lw_p15 : lw_okq (⟨"GlassHall$Tree", "beginSecond", "(I)V"⟩, 9) := ⟨⟨by decide +kernel, by decide +kernel⟩, List.mem_of_getElem? (i := 198) (by decide +kernel), List.mem_of_getElem? (i := 628) (by decide +kernel), List.mem_of_getElem? (i := 629) (by decide +kernel)⟩
def lw_privs_1 : List (MethodName × Nat) := [(⟨"GlassHall", "unplannedArea", "()J"⟩, 11), (⟨"GlassHall", "waitingArea", "()J"⟩, 11), (⟨"GlassHall", "countSheets", "(Z)I"⟩, 11), (⟨"java/lang/Throwable", "fillInStackTrace", "(I)Ljava/lang/Throwable;"⟩, 6), (⟨"GlassHall", "findFreeSlot", "()LGlassHall$Sheet;"⟩, 11), (⟨"GlassHall", "bringIn", "(LGlassHall$Sheet;)I"⟩, 11), (⟨"GlassHall", "findSheet", "(I)LGlassHall$Sheet;"⟩, 11), (⟨"GlassHall$Strips", "stackColumn", "(LGlassHall$Glass;)I"⟩, 7), (⟨"GlassHall$Strips", "takeFirst", "(LGlassHall$Glass;)Z"⟩, 7), (⟨"GlassHall$Strips", "take", "(LGlassHall$Glass;IZ)Z"⟩, 7), (⟨"GlassHall", "adoptLayout", "(LGlassHall$Sheet;)I"⟩, 11), (⟨"GlassHall$Tree", "add", "(IIIIII)I"⟩, 9), (⟨"GlassHall$Tree", "growColumn", "(LGlassHall$Layout;IIII)V"⟩, 9), (⟨"GlassHall$Tree", "growRow", "(LGlassHall$Layout;IIIIII)V"⟩, 9), (⟨"GlassHall$Tree", "growCell", "(LGlassHall$Layout;IIII)V"⟩, 9), (⟨"GlassHall$Tree", "beginSecond", "(I)V"⟩, 9)]
theorem lw_r1 : ∀ q ∈ lw_privs_1, lw_okq q := List.forall_mem_cons.mpr ⟨lw_p0, List.forall_mem_cons.mpr ⟨lw_p1, List.forall_mem_cons.mpr ⟨lw_p2, List.forall_mem_cons.mpr ⟨lw_p3, List.forall_mem_cons.mpr ⟨lw_p4, List.forall_mem_cons.mpr ⟨lw_p5, List.forall_mem_cons.mpr ⟨lw_p6, List.forall_mem_cons.mpr ⟨lw_p7, List.forall_mem_cons.mpr ⟨lw_p8, List.forall_mem_cons.mpr ⟨lw_p9, List.forall_mem_cons.mpr ⟨lw_p10, List.forall_mem_cons.mpr ⟨lw_p11, List.forall_mem_cons.mpr ⟨lw_p12, List.forall_mem_cons.mpr ⟨lw_p13, List.forall_mem_cons.mpr ⟨lw_p14, List.forall_mem_cons.mpr ⟨lw_p15, fun _ h => absurd h List.not_mem_nil⟩⟩⟩⟩⟩⟩⟩⟩⟩⟩⟩⟩⟩⟩⟩⟩
theorem lw_p16 : lw_okq (⟨"GlassHall$Tree", "addRest", "(IIII)V"⟩, 9) := ⟨⟨by decide +kernel, by decide +kernel⟩, List.mem_of_getElem? (i := 198) (by decide +kernel), List.mem_of_getElem? (i := 632) (by decide +kernel), List.mem_of_getElem? (i := 633) (by decide +kernel)⟩
theorem lw_p17 : lw_okq (⟨"GlassHall$Trial", "addName", "(I)V"⟩, 4) := ⟨⟨by decide +kernel, by decide +kernel⟩, List.mem_of_getElem? (i := 172) (by decide +kernel), List.mem_of_getElem? (i := 652) (by decide +kernel), List.mem_of_getElem? (i := 653) (by decide +kernel)⟩
theorem lw_p18 : lw_okq (⟨"GlassHall$Trial", "timesNamed", "(I)I"⟩, 4) := ⟨⟨by decide +kernel, by decide +kernel⟩, List.mem_of_getElem? (i := 172) (by decide +kernel), List.mem_of_getElem? (i := 665) (by decide +kernel), List.mem_of_getElem? (i := 666) (by decide +kernel)⟩
theorem lw_p19 : lw_okq (⟨"GlassHall$Trial", "placeFrom", "(LGlassHall$Glass;I)Z"⟩, 4) := ⟨⟨by decide +kernel, by decide +kernel⟩, List.mem_of_getElem? (i := 172) (by decide +kernel), List.mem_of_getElem? (i := 674) (by decide +kernel), List.mem_of_getElem? (i := 675) (by decide +kernel)⟩
theorem lw_p20 : lw_okq (⟨"GlassHall$Trial", "placeAt", "(LGlassHall$Glass;IIIZ)Z"⟩, 4) := ⟨⟨by decide +kernel, by decide +kernel⟩, List.mem_of_getElem? (i := 172) (by decide +kernel), List.mem_of_getElem? (i := 680) (by decide +kernel), List.mem_of_getElem? (i := 681) (by decide +kernel)⟩
theorem lw_p21 : lw_okq (⟨"GlassHall", "findPlanned", "(I)LGlassHall$Sheet;"⟩, 11) := ⟨⟨by decide +kernel, by decide +kernel⟩, List.mem_of_getElem? (i := 21) (by decide +kernel), List.mem_of_getElem? (i := 708) (by decide +kernel), List.mem_of_getElem? (i := 709) (by decide +kernel)⟩
theorem lw_p22 : lw_okq (⟨"GlassHall", "letWait", "(LGlassHall$Sheet;I)V"⟩, 11) := ⟨⟨by decide +kernel, by decide +kernel⟩, List.mem_of_getElem? (i := 21) (by decide +kernel), List.mem_of_getElem? (i := 758) (by decide +kernel), List.mem_of_getElem? (i := 759) (by decide +kernel)⟩
theorem lw_p23 : lw_okq (⟨"GlassHall", "putAway", "(LGlassHall$Sheet;I)V"⟩, 11) := ⟨⟨by decide +kernel, by decide +kernel⟩, List.mem_of_getElem? (i := 21) (by decide +kernel), List.mem_of_getElem? (i := 767) (by decide +kernel), List.mem_of_getElem? (i := 768) (by decide +kernel)⟩
theorem lw_p24 : lw_okq (⟨"GlassHall", "clearAwayIfEmpty", "(LGlassHall$Sheet;)V"⟩, 11) := ⟨⟨by decide +kernel, by decide +kernel⟩, List.mem_of_getElem? (i := 21) (by decide +kernel), List.mem_of_getElem? (i := 785) (by decide +kernel), List.mem_of_getElem? (i := 786) (by decide +kernel)⟩
theorem lw_p25 : lw_okq (⟨"GlassHall", "reopenPanes", "(LGlassHall$Tree;I)I"⟩, 11) := ⟨⟨by decide +kernel, by decide +kernel⟩, List.mem_of_getElem? (i := 21) (by decide +kernel), List.mem_of_getElem? (i := 797) (by decide +kernel), List.mem_of_getElem? (i := 798) (by decide +kernel)⟩
theorem lw_p26 : lw_okq (⟨"GlassHall", "findOffcut", "(I)LGlassHall$Glass;"⟩, 11) := ⟨⟨by decide +kernel, by decide +kernel⟩, List.mem_of_getElem? (i := 21) (by decide +kernel), List.mem_of_getElem? (i := 828) (by decide +kernel), List.mem_of_getElem? (i := 829) (by decide +kernel)⟩
theorem lw_p27 : lw_okq (⟨"GlassHallModel", "sheets", "()I"⟩, 53) := ⟨⟨by decide +kernel, by decide +kernel⟩, List.mem_of_getElem? (i := 864) (by decide +kernel), List.mem_of_getElem? (i := 1042) (by decide +kernel), List.mem_of_getElem? (i := 1043) (by decide +kernel)⟩
theorem lw_p28 : lw_okq (⟨"GlassHallModel", "make", "(II)I"⟩, 53) := ⟨⟨by decide +kernel, by decide +kernel⟩, List.mem_of_getElem? (i := 864) (by decide +kernel), List.mem_of_getElem? (i := 1046) (by decide +kernel), List.mem_of_getElem? (i := 1047) (by decide +kernel)⟩
theorem lw_p29 : lw_okq (⟨"GlassHallModel", "find", "(I)I"⟩, 53) := ⟨⟨by decide +kernel, by decide +kernel⟩, List.mem_of_getElem? (i := 864) (by decide +kernel), List.mem_of_getElem? (i := 1054) (by decide +kernel), List.mem_of_getElem? (i := 1055) (by decide +kernel)⟩
theorem lw_p30 : lw_okq (⟨"GlassHallModel", "putFlaw", "(IIIII)V"⟩, 53) := ⟨⟨by decide +kernel, by decide +kernel⟩, List.mem_of_getElem? (i := 864) (by decide +kernel), List.mem_of_getElem? (i := 1058) (by decide +kernel), List.mem_of_getElem? (i := 1059) (by decide +kernel)⟩
theorem lw_p31 : lw_okq (⟨"GlassHallModel", "strips", "(I)V"⟩, 53) := ⟨⟨by decide +kernel, by decide +kernel⟩, List.mem_of_getElem? (i := 864) (by decide +kernel), List.mem_of_getElem? (i := 1070) (by decide +kernel), List.mem_of_getElem? (i := 1071) (by decide +kernel)⟩
def lw_privs_2 : List (MethodName × Nat) := [(⟨"GlassHall$Tree", "addRest", "(IIII)V"⟩, 9), (⟨"GlassHall$Trial", "addName", "(I)V"⟩, 4), (⟨"GlassHall$Trial", "timesNamed", "(I)I"⟩, 4), (⟨"GlassHall$Trial", "placeFrom", "(LGlassHall$Glass;I)Z"⟩, 4), (⟨"GlassHall$Trial", "placeAt", "(LGlassHall$Glass;IIIZ)Z"⟩, 4), (⟨"GlassHall", "findPlanned", "(I)LGlassHall$Sheet;"⟩, 11), (⟨"GlassHall", "letWait", "(LGlassHall$Sheet;I)V"⟩, 11), (⟨"GlassHall", "putAway", "(LGlassHall$Sheet;I)V"⟩, 11), (⟨"GlassHall", "clearAwayIfEmpty", "(LGlassHall$Sheet;)V"⟩, 11), (⟨"GlassHall", "reopenPanes", "(LGlassHall$Tree;I)I"⟩, 11), (⟨"GlassHall", "findOffcut", "(I)LGlassHall$Glass;"⟩, 11), (⟨"GlassHallModel", "sheets", "()I"⟩, 53), (⟨"GlassHallModel", "make", "(II)I"⟩, 53), (⟨"GlassHallModel", "find", "(I)I"⟩, 53), (⟨"GlassHallModel", "putFlaw", "(IIIII)V"⟩, 53), (⟨"GlassHallModel", "strips", "(I)V"⟩, 53)]
theorem lw_r2 : ∀ q ∈ lw_privs_2, lw_okq q := List.forall_mem_cons.mpr ⟨lw_p16, List.forall_mem_cons.mpr ⟨lw_p17, List.forall_mem_cons.mpr ⟨lw_p18, List.forall_mem_cons.mpr ⟨lw_p19, List.forall_mem_cons.mpr ⟨lw_p20, List.forall_mem_cons.mpr ⟨lw_p21, List.forall_mem_cons.mpr ⟨lw_p22, List.forall_mem_cons.mpr ⟨lw_p23, List.forall_mem_cons.mpr ⟨lw_p24, List.forall_mem_cons.mpr ⟨lw_p25, List.forall_mem_cons.mpr ⟨lw_p26, List.forall_mem_cons.mpr ⟨lw_p27, List.forall_mem_cons.mpr ⟨lw_p28, List.forall_mem_cons.mpr ⟨lw_p29, List.forall_mem_cons.mpr ⟨lw_p30, List.forall_mem_cons.mpr ⟨lw_p31, fun _ h => absurd h List.not_mem_nil⟩⟩⟩⟩⟩⟩⟩⟩⟩⟩⟩⟩⟩⟩⟩⟩
theorem lw_p32 : lw_okq (⟨"GlassHallModel", "choose", "(III)I"⟩, 53) := ⟨⟨by decide +kernel, by decide +kernel⟩, List.mem_of_getElem? (i := 864) (by decide +kernel), List.mem_of_getElem? (i := 1074) (by decide +kernel), List.mem_of_getElem? (i := 1075) (by decide +kernel)⟩
theorem lw_p33 : lw_okq (⟨"GlassHallModel", "isPossible", "(IIIIZ)Z"⟩, 53) := ⟨⟨by decide +kernel, by decide +kernel⟩, List.mem_of_getElem? (i := 864) (by decide +kernel), List.mem_of_getElem? (i := 1078) (by decide +kernel), List.mem_of_getElem? (i := 1079) (by decide +kernel)⟩
theorem lw_p34 : lw_okq (⟨"GlassHallModel", "meets", "(IIIIII)Z"⟩, 53) := ⟨⟨by decide +kernel, by decide +kernel⟩, List.mem_of_getElem? (i := 864) (by decide +kernel), List.mem_of_getElem? (i := 1082) (by decide +kernel), List.mem_of_getElem? (i := 1083) (by decide +kernel)⟩
theorem lw_p35 : lw_okq (⟨"GlassHallModel", "isBefore", "(II)Z"⟩, 53) := ⟨⟨by decide +kernel, by decide +kernel⟩, List.mem_of_getElem? (i := 864) (by decide +kernel), List.mem_of_getElem? (i := 1089) (by decide +kernel), List.mem_of_getElem? (i := 1090) (by decide +kernel)⟩
theorem lw_p36 : lw_okq (⟨"GlassHallModel", "lay", "(IZII)V"⟩, 53) := ⟨⟨by decide +kernel, by decide +kernel⟩, List.mem_of_getElem? (i := 864) (by decide +kernel), List.mem_of_getElem? (i := 1093) (by decide +kernel), List.mem_of_getElem? (i := 1094) (by decide +kernel)⟩
theorem lw_p37 : lw_okq (⟨"GlassHallModel", "adopt", "(I)I"⟩, 53) := ⟨⟨by decide +kernel, by decide +kernel⟩, List.mem_of_getElem? (i := 864) (by decide +kernel), List.mem_of_getElem? (i := 1097) (by decide +kernel), List.mem_of_getElem? (i := 1098) (by decide +kernel)⟩
theorem lw_p38 : lw_okq (⟨"GlassHallModel", "push", "(IIIII)V"⟩, 53) := ⟨⟨by decide +kernel, by decide +kernel⟩, List.mem_of_getElem? (i := 864) (by decide +kernel), List.mem_of_getElem? (i := 1101) (by decide +kernel), List.mem_of_getElem? (i := 1102) (by decide +kernel)⟩
theorem lw_p39 : lw_okq (⟨"GlassHallModel", "at", "(IIII)V"⟩, 53) := ⟨⟨by decide +kernel, by decide +kernel⟩, List.mem_of_getElem? (i := 864) (by decide +kernel), List.mem_of_getElem? (i := 1105) (by decide +kernel), List.mem_of_getElem? (i := 1106) (by decide +kernel)⟩
theorem lw_p40 : lw_okq (⟨"GlassHallModel", "grow", "(I)V"⟩, 53) := ⟨⟨by decide +kernel, by decide +kernel⟩, List.mem_of_getElem? (i := 864) (by decide +kernel), List.mem_of_getElem? (i := 1109) (by decide +kernel), List.mem_of_getElem? (i := 1110) (by decide +kernel)⟩
theorem lw_p41 : lw_okq (⟨"GlassHallModel", "reach", "(IIII)I"⟩, 53) := ⟨⟨by decide +kernel, by decide +kernel⟩, List.mem_of_getElem? (i := 864) (by decide +kernel), List.mem_of_getElem? (i := 1113) (by decide +kernel), List.mem_of_getElem? (i := 1114) (by decide +kernel)⟩
theorem lw_p42 : lw_okq (⟨"GlassHallModel", "paneAt", "(III)I"⟩, 53) := ⟨⟨by decide +kernel, by decide +kernel⟩, List.mem_of_getElem? (i := 864) (by decide +kernel), List.mem_of_getElem? (i := 1117) (by decide +kernel), List.mem_of_getElem? (i := 1118) (by decide +kernel)⟩
theorem lw_p43 : lw_okq (⟨"GlassHallModel", "columnWidth", "(I)I"⟩, 53) := ⟨⟨by decide +kernel, by decide +kernel⟩, List.mem_of_getElem? (i := 864) (by decide +kernel), List.mem_of_getElem? (i := 1121) (by decide +kernel), List.mem_of_getElem? (i := 1122) (by decide +kernel)⟩
theorem lw_p44 : lw_okq (⟨"GlassHallModel", "rowWidth", "(II)I"⟩, 53) := ⟨⟨by decide +kernel, by decide +kernel⟩, List.mem_of_getElem? (i := 864) (by decide +kernel), List.mem_of_getElem? (i := 1125) (by decide +kernel), List.mem_of_getElem? (i := 1126) (by decide +kernel)⟩
theorem lw_p45 : lw_okq (⟨"GlassHallModel", "rowHeight", "(II)I"⟩, 53) := ⟨⟨by decide +kernel, by decide +kernel⟩, List.mem_of_getElem? (i := 864) (by decide +kernel), List.mem_of_getElem? (i := 1129) (by decide +kernel), List.mem_of_getElem? (i := 1130) (by decide +kernel)⟩
theorem lw_p46 : lw_okq (⟨"GlassHallModel", "split", "(IIIIII)V"⟩, 53) := ⟨⟨by decide +kernel, by decide +kernel⟩, List.mem_of_getElem? (i := 864) (by decide +kernel), List.mem_of_getElem? (i := 1133) (by decide +kernel), List.mem_of_getElem? (i := 1134) (by decide +kernel)⟩
theorem lw_p47 : lw_okq (⟨"GlassHallModel", "isOrder", "(I)Z"⟩, 53) := ⟨⟨by decide +kernel, by decide +kernel⟩, List.mem_of_getElem? (i := 864) (by decide +kernel), List.mem_of_getElem? (i := 1141) (by decide +kernel), List.mem_of_getElem? (i := 1142) (by decide +kernel)⟩
def lw_privs_3 : List (MethodName × Nat) := [(⟨"GlassHallModel", "choose", "(III)I"⟩, 53), (⟨"GlassHallModel", "isPossible", "(IIIIZ)Z"⟩, 53), (⟨"GlassHallModel", "meets", "(IIIIII)Z"⟩, 53), (⟨"GlassHallModel", "isBefore", "(II)Z"⟩, 53), (⟨"GlassHallModel", "lay", "(IZII)V"⟩, 53), (⟨"GlassHallModel", "adopt", "(I)I"⟩, 53), (⟨"GlassHallModel", "push", "(IIIII)V"⟩, 53), (⟨"GlassHallModel", "at", "(IIII)V"⟩, 53), (⟨"GlassHallModel", "grow", "(I)V"⟩, 53), (⟨"GlassHallModel", "reach", "(IIII)I"⟩, 53), (⟨"GlassHallModel", "paneAt", "(III)I"⟩, 53), (⟨"GlassHallModel", "columnWidth", "(I)I"⟩, 53), (⟨"GlassHallModel", "rowWidth", "(II)I"⟩, 53), (⟨"GlassHallModel", "rowHeight", "(II)I"⟩, 53), (⟨"GlassHallModel", "split", "(IIIIII)V"⟩, 53), (⟨"GlassHallModel", "isOrder", "(I)Z"⟩, 53)]
theorem lw_r3 : ∀ q ∈ lw_privs_3, lw_okq q := List.forall_mem_cons.mpr ⟨lw_p32, List.forall_mem_cons.mpr ⟨lw_p33, List.forall_mem_cons.mpr ⟨lw_p34, List.forall_mem_cons.mpr ⟨lw_p35, List.forall_mem_cons.mpr ⟨lw_p36, List.forall_mem_cons.mpr ⟨lw_p37, List.forall_mem_cons.mpr ⟨lw_p38, List.forall_mem_cons.mpr ⟨lw_p39, List.forall_mem_cons.mpr ⟨lw_p40, List.forall_mem_cons.mpr ⟨lw_p41, List.forall_mem_cons.mpr ⟨lw_p42, List.forall_mem_cons.mpr ⟨lw_p43, List.forall_mem_cons.mpr ⟨lw_p44, List.forall_mem_cons.mpr ⟨lw_p45, List.forall_mem_cons.mpr ⟨lw_p46, List.forall_mem_cons.mpr ⟨lw_p47, fun _ h => absurd h List.not_mem_nil⟩⟩⟩⟩⟩⟩⟩⟩⟩⟩⟩⟩⟩⟩⟩⟩
theorem lw_p48 : lw_okq (⟨"GlassHallModel", "hasOpen", "(III)Z"⟩, 53) := ⟨⟨by decide +kernel, by decide +kernel⟩, List.mem_of_getElem? (i := 864) (by decide +kernel), List.mem_of_getElem? (i := 1145) (by decide +kernel), List.mem_of_getElem? (i := 1146) (by decide +kernel)⟩
theorem lw_p49 : lw_okq (⟨"GlassHallModel", "isFound", "(IIII)Z"⟩, 53) := ⟨⟨by decide +kernel, by decide +kernel⟩, List.mem_of_getElem? (i := 864) (by decide +kernel), List.mem_of_getElem? (i := 1149) (by decide +kernel), List.mem_of_getElem? (i := 1150) (by decide +kernel)⟩
theorem lw_p50 : lw_okq (⟨"GlassHallModel", "name", "(II)Z"⟩, 53) := ⟨⟨by decide +kernel, by decide +kernel⟩, List.mem_of_getElem? (i := 864) (by decide +kernel), List.mem_of_getElem? (i := 1153) (by decide +kernel), List.mem_of_getElem? (i := 1154) (by decide +kernel)⟩
theorem lw_p51 : lw_okq (⟨"GlassHallModel", "columns", "()I"⟩, 53) := ⟨⟨by decide +kernel, by decide +kernel⟩, List.mem_of_getElem? (i := 864) (by decide +kernel), List.mem_of_getElem? (i := 1157) (by decide +kernel), List.mem_of_getElem? (i := 1158) (by decide +kernel)⟩
theorem lw_p52 : lw_okq (⟨"GlassHallModel", "rowsOf", "(I)I"⟩, 53) := ⟨⟨by decide +kernel, by decide +kernel⟩, List.mem_of_getElem? (i := 864) (by decide +kernel), List.mem_of_getElem? (i := 1161) (by decide +kernel), List.mem_of_getElem? (i := 1162) (by decide +kernel)⟩
theorem lw_p53 : lw_okq (⟨"GlassHallModel", "fits", "(I)Z"⟩, 53) := ⟨⟨by decide +kernel, by decide +kernel⟩, List.mem_of_getElem? (i := 864) (by decide +kernel), List.mem_of_getElem? (i := 1165) (by decide +kernel), List.mem_of_getElem? (i := 1166) (by decide +kernel)⟩
theorem lw_p54 : lw_okq (⟨"GlassHallModel", "arrive", "(II)V"⟩, 53) := ⟨⟨by decide +kernel, by decide +kernel⟩, List.mem_of_getElem? (i := 864) (by decide +kernel), List.mem_of_getElem? (i := 1173) (by decide +kernel), List.mem_of_getElem? (i := 1174) (by decide +kernel)⟩
theorem lw_p55 : lw_okq (⟨"GlassHallModel", "store", "(II)V"⟩, 53) := ⟨⟨by decide +kernel, by decide +kernel⟩, List.mem_of_getElem? (i := 864) (by decide +kernel), List.mem_of_getElem? (i := 1177) (by decide +kernel), List.mem_of_getElem? (i := 1178) (by decide +kernel)⟩
theorem lw_p56 : lw_okq (⟨"GlassHallModel", "leave", "(I)V"⟩, 53) := ⟨⟨by decide +kernel, by decide +kernel⟩, List.mem_of_getElem? (i := 864) (by decide +kernel), List.mem_of_getElem? (i := 1181) (by decide +kernel), List.mem_of_getElem? (i := 1182) (by decide +kernel)⟩
theorem lw_p57 : lw_okq (⟨"GlassHallModel", "isOffcut", "(I)Z"⟩, 53) := ⟨⟨by decide +kernel, by decide +kernel⟩, List.mem_of_getElem? (i := 864) (by decide +kernel), List.mem_of_getElem? (i := 1205) (by decide +kernel), List.mem_of_getElem? (i := 1206) (by decide +kernel)⟩
theorem lw_p58 : lw_okq (⟨"GlassHallModel", "moveOffcut", "(II)V"⟩, 53) := ⟨⟨by decide +kernel, by decide +kernel⟩, List.mem_of_getElem? (i := 864) (by decide +kernel), List.mem_of_getElem? (i := 1209) (by decide +kernel), List.mem_of_getElem? (i := 1210) (by decide +kernel)⟩
def lw_privs_4 : List (MethodName × Nat) := [(⟨"GlassHallModel", "hasOpen", "(III)Z"⟩, 53), (⟨"GlassHallModel", "isFound", "(IIII)Z"⟩, 53), (⟨"GlassHallModel", "name", "(II)Z"⟩, 53), (⟨"GlassHallModel", "columns", "()I"⟩, 53), (⟨"GlassHallModel", "rowsOf", "(I)I"⟩, 53), (⟨"GlassHallModel", "fits", "(I)Z"⟩, 53), (⟨"GlassHallModel", "arrive", "(II)V"⟩, 53), (⟨"GlassHallModel", "store", "(II)V"⟩, 53), (⟨"GlassHallModel", "leave", "(I)V"⟩, 53), (⟨"GlassHallModel", "isOffcut", "(I)Z"⟩, 53), (⟨"GlassHallModel", "moveOffcut", "(II)V"⟩, 53)]
theorem lw_r4 : ∀ q ∈ lw_privs_4, lw_okq q := List.forall_mem_cons.mpr ⟨lw_p48, List.forall_mem_cons.mpr ⟨lw_p49, List.forall_mem_cons.mpr ⟨lw_p50, List.forall_mem_cons.mpr ⟨lw_p51, List.forall_mem_cons.mpr ⟨lw_p52, List.forall_mem_cons.mpr ⟨lw_p53, List.forall_mem_cons.mpr ⟨lw_p54, List.forall_mem_cons.mpr ⟨lw_p55, List.forall_mem_cons.mpr ⟨lw_p56, List.forall_mem_cons.mpr ⟨lw_p57, List.forall_mem_cons.mpr ⟨lw_p58, fun _ h => absurd h List.not_mem_nil⟩⟩⟩⟩⟩⟩⟩⟩⟩⟩⟩
def lw_privs : List (MethodName × Nat) := lw_privs_1 ++ (lw_privs_2 ++ (lw_privs_3 ++ (lw_privs_4)))
def lw_tbl : List Cond := k2_sels lw_privs ++ tables_1
theorem lw_privs_ok : ∀ q ∈ lw_privs, lw_okq q := by
  show ∀ q ∈ lw_privs_1 ++ (lw_privs_2 ++ (lw_privs_3 ++ (lw_privs_4))), lw_okq q
  exact List.forall_mem_append.mpr ⟨lw_r1, List.forall_mem_append.mpr ⟨lw_r2, List.forall_mem_append.mpr ⟨lw_r3, lw_r4⟩⟩⟩
end
section
/-! the classes, their fields, the words of the tables, the methods: written by a program out of the Statement -/
def RLw : String := "GlassHallLaw"
def RGl : String := "GlassHall$Glass"
def TGl : u_T := fun k => match k with
  | 0 => ("GlassHall$Glass", "flawX", "[I", true)
  | 1 => ("GlassHall$Glass", "flawY", "[I", true)
  | 2 => ("GlassHall$Glass", "flawWide", "[I", true)
  | 3 => ("GlassHall$Glass", "flawHigh", "[I", true)
  | 4 => ("GlassHall$Glass", "wide", "I", false)
  | 5 => ("GlassHall$Glass", "high", "I", false)
  | _ => ("GlassHall$Glass", "flaws", "I", false)
def tyGl : Nat → FieldType := fun k => match k with
  | 0 => .array (.int)
  | 1 => .array (.int)
  | 2 => .array (.int)
  | 3 => .array (.int)
  | 4 => .int
  | 5 => .int
  | _ => .int
theorem nmGl : ∀ a, a < 7 → ∀ b, b < 7 → a ≠ b → (TGl a).2.1 ≠ (TGl b).2.1 := by decide +kernel
theorem tyGl_ok : ∀ k, k < 7 → parseFieldDescriptor (TGl k).2.2.1 = some (tyGl k) := by decide +kernel
def RLa : String := "GlassHall$Layout"
def TLa : u_T := fun k => match k with
  | 0 => ("GlassHall$Layout", "orderOf", "[I", true)
  | 1 => ("GlassHall$Layout", "wide", "[I", true)
  | 2 => ("GlassHall$Layout", "high", "[I", true)
  | 3 => ("GlassHall$Layout", "column", "[I", true)
  | 4 => ("GlassHall$Layout", "row", "[I", true)
  | _ => ("GlassHall$Layout", "size", "I", false)
def tyLa : Nat → FieldType := fun k => match k with
  | 0 => .array (.int)
  | 1 => .array (.int)
  | 2 => .array (.int)
  | 3 => .array (.int)
  | 4 => .array (.int)
  | _ => .int
theorem nmLa : ∀ a, a < 6 → ∀ b, b < 6 → a ≠ b → (TLa a).2.1 ≠ (TLa b).2.1 := by decide +kernel
theorem tyLa_ok : ∀ k, k < 6 → parseFieldDescriptor (TLa k).2.2.1 = some (tyLa k) := by decide +kernel
def ROr : String := "GlassHall$Order"
def TOr : u_T := fun k => match k with
  | 0 => ("GlassHall$Order", "wide", "I", true)
  | 1 => ("GlassHall$Order", "high", "I", true)
  | 2 => ("GlassHall$Order", "turns", "Z", true)
  | 3 => ("GlassHall$Order", "open", "I", false)
  | 4 => ("GlassHall$Order", "planned", "I", false)
  | _ => ("GlassHall$Order", "done", "I", false)
def tyOr : Nat → FieldType := fun k => match k with
  | 0 => .int
  | 1 => .int
  | 2 => .boolean
  | 3 => .int
  | 4 => .int
  | _ => .int
theorem nmOr : ∀ a, a < 6 → ∀ b, b < 6 → a ≠ b → (TOr a).2.1 ≠ (TOr b).2.1 := by decide +kernel
theorem tyOr_ok : ∀ k, k < 6 → parseFieldDescriptor (TOr k).2.2.1 = some (tyOr k) := by decide +kernel
def RBk : String := "GlassHall$OrderBook"
def TBk : u_T := fun k => match k with
  | 0 => ("GlassHall$OrderBook", "orders", "[LGlassHall$Order;", true)
  | 1 => ("GlassHall$OrderBook", "ranked", "[I", true)
  | _ => ("GlassHall$OrderBook", "size", "I", false)
def tyBk : Nat → FieldType := fun k => match k with
  | 0 => .array (.object "GlassHall$Order")
  | 1 => .array (.int)
  | _ => .int
theorem nmBk : ∀ a, a < 3 → ∀ b, b < 3 → a ≠ b → (TBk a).2.1 ≠ (TBk b).2.1 := by decide +kernel
theorem tyBk_ok : ∀ k, k < 3 → parseFieldDescriptor (TBk k).2.2.1 = some (tyBk k) := by decide +kernel
def RRk : String := "GlassHall$Rack"
def TRk : u_T := fun k => match k with
  | 0 => ("GlassHall$Rack", "row", "[LGlassHall$Glass;", true)
  | _ => ("GlassHall$Rack", "size", "I", false)
def tyRk : Nat → FieldType := fun k => match k with
  | 0 => .array (.object "GlassHall$Glass")
  | _ => .int
theorem nmRk : ∀ a, a < 2 → ∀ b, b < 2 → a ≠ b → (TRk a).2.1 ≠ (TRk b).2.1 := by decide +kernel
theorem tyRk_ok : ∀ k, k < 2 → parseFieldDescriptor (TRk k).2.2.1 = some (tyRk k) := by decide +kernel
def RSh : String := "GlassHall$Sheet"
def TSh : u_T := fun k => match k with
  | 0 => ("GlassHall$Sheet", "glass", "LGlassHall$Glass;", true)
  | 1 => ("GlassHall$Sheet", "tree", "LGlassHall$Tree;", true)
  | 2 => ("GlassHall$Sheet", "there", "Z", false)
  | _ => ("GlassHall$Sheet", "id", "I", false)
def tySh : Nat → FieldType := fun k => match k with
  | 0 => .object "GlassHall$Glass"
  | 1 => .object "GlassHall$Tree"
  | 2 => .boolean
  | _ => .int
theorem nmSh : ∀ a, a < 4 → ∀ b, b < 4 → a ≠ b → (TSh a).2.1 ≠ (TSh b).2.1 := by decide +kernel
theorem tySh_ok : ∀ k, k < 4 → parseFieldDescriptor (TSh k).2.2.1 = some (tySh k) := by decide +kernel
def RSt : String := "GlassHall$Strips"
def TSt : u_T := fun k => match k with
  | 0 => ("GlassHall$Strips", "book", "LGlassHall$OrderBook;", true)
  | 1 => ("GlassHall$Strips", "layout", "LGlassHall$Layout;", true)
  | 2 => ("GlassHall$Strips", "column", "I", false)
  | 3 => ("GlassHall$Strips", "row", "I", false)
  | 4 => ("GlassHall$Strips", "x", "I", false)
  | 5 => ("GlassHall$Strips", "y", "I", false)
  | _ => ("GlassHall$Strips", "room", "I", false)
def tySt : Nat → FieldType := fun k => match k with
  | 0 => .object "GlassHall$OrderBook"
  | 1 => .object "GlassHall$Layout"
  | 2 => .int
  | 3 => .int
  | 4 => .int
  | 5 => .int
  | _ => .int
theorem nmSt : ∀ a, a < 7 → ∀ b, b < 7 → a ≠ b → (TSt a).2.1 ≠ (TSt b).2.1 := by decide +kernel
theorem tySt_ok : ∀ k, k < 7 → parseFieldDescriptor (TSt k).2.2.1 = some (tySt k) := by decide +kernel
def RTr : String := "GlassHall$Tree"
def TTr : u_T := fun k => match k with
  | 0 => ("GlassHall$Tree", "kind", "[I", true)
  | 1 => ("GlassHall$Tree", "x", "[I", true)
  | 2 => ("GlassHall$Tree", "y", "[I", true)
  | 3 => ("GlassHall$Tree", "wide", "[I", true)
  | 4 => ("GlassHall$Tree", "high", "[I", true)
  | 5 => ("GlassHall$Tree", "mark", "[I", true)
  | 6 => ("GlassHall$Tree", "second", "[I", true)
  | 7 => ("GlassHall$Tree", "state", "[I", true)
  | _ => ("GlassHall$Tree", "size", "I", false)
def tyTr : Nat → FieldType := fun k => match k with
  | 0 => .array (.int)
  | 1 => .array (.int)
  | 2 => .array (.int)
  | 3 => .array (.int)
  | 4 => .array (.int)
  | 5 => .array (.int)
  | 6 => .array (.int)
  | 7 => .array (.int)
  | _ => .int
theorem nmTr : ∀ a, a < 9 → ∀ b, b < 9 → a ≠ b → (TTr a).2.1 ≠ (TTr b).2.1 := by decide +kernel
theorem tyTr_ok : ∀ k, k < 9 → parseFieldDescriptor (TTr k).2.2.1 = some (tyTr k) := by decide +kernel
def RTi : String := "GlassHall$Trial"
def TTi : u_T := fun k => match k with
  | 0 => ("GlassHall$Trial", "book", "LGlassHall$OrderBook;", true)
  | 1 => ("GlassHall$Trial", "layout", "LGlassHall$Layout;", true)
  | 2 => ("GlassHall$Trial", "named", "[I", true)
  | _ => ("GlassHall$Trial", "names", "I", false)
def tyTi : Nat → FieldType := fun k => match k with
  | 0 => .object "GlassHall$OrderBook"
  | 1 => .object "GlassHall$Layout"
  | 2 => .array (.int)
  | _ => .int
theorem nmTi : ∀ a, a < 4 → ∀ b, b < 4 → a ≠ b → (TTi a).2.1 ≠ (TTi b).2.1 := by decide +kernel
theorem tyTi_ok : ∀ k, k < 4 → parseFieldDescriptor (TTi k).2.2.1 = some (tyTi k) := by decide +kernel
def RHa : String := "GlassHall"
def THa : u_T := fun k => match k with
  | 0 => ("GlassHall", "slots", "[LGlassHall$Sheet;", true)
  | 1 => ("GlassHall", "book", "LGlassHall$OrderBook;", true)
  | 2 => ("GlassHall", "offcuts", "LGlassHall$Rack;", true)
  | 3 => ("GlassHall", "layout", "LGlassHall$Layout;", true)
  | 4 => ("GlassHall", "strips", "LGlassHall$Strips;", true)
  | 5 => ("GlassHall", "trial", "LGlassHall$Trial;", true)
  | 6 => ("GlassHall", "sheetsEver", "I", false)
  | 7 => ("GlassHall", "madeArea", "J", false)
  | 8 => ("GlassHall", "doneArea", "J", false)
  | 9 => ("GlassHall", "wasteArea", "J", false)
  | _ => ("GlassHall", "brokenArea", "J", false)
def tyHa : Nat → FieldType := fun k => match k with
  | 0 => .array (.object "GlassHall$Sheet")
  | 1 => .object "GlassHall$OrderBook"
  | 2 => .object "GlassHall$Rack"
  | 3 => .object "GlassHall$Layout"
  | 4 => .object "GlassHall$Strips"
  | 5 => .object "GlassHall$Trial"
  | 6 => .int
  | 7 => .long
  | 8 => .long
  | 9 => .long
  | _ => .long
theorem nmHa : ∀ a, a < 11 → ∀ b, b < 11 → a ≠ b → (THa a).2.1 ≠ (THa b).2.1 := by decide +kernel
theorem tyHa_ok : ∀ k, k < 11 → parseFieldDescriptor (THa k).2.2.1 = some (tyHa k) := by decide +kernel
def RMo : String := "GlassHallModel"
def TMo : u_T := fun k => match k with
  | 0 => ("GlassHallModel", "thrown", "I", false)
  | 1 => ("GlassHallModel", "ever", "I", false)
  | 2 => ("GlassHallModel", "there", "[Z", true)
  | 3 => ("GlassHallModel", "ids", "[I", true)
  | 4 => ("GlassHallModel", "widths", "[I", true)
  | 5 => ("GlassHallModel", "heights", "[I", true)
  | 6 => ("GlassHallModel", "planned", "[Z", true)
  | 7 => ("GlassHallModel", "scored", "[Z", true)
  | 8 => ("GlassHallModel", "flawCounts", "[I", true)
  | 9 => ("GlassHallModel", "flaws", "[I", true)
  | 10 => ("GlassHallModel", "nodeCounts", "[I", true)
  | 11 => ("GlassHallModel", "kinds", "[I", true)
  | 12 => ("GlassHallModel", "xs", "[I", true)
  | 13 => ("GlassHallModel", "ys", "[I", true)
  | 14 => ("GlassHallModel", "ws", "[I", true)
  | 15 => ("GlassHallModel", "hs", "[I", true)
  | 16 => ("GlassHallModel", "cuts", "[I", true)
  | 17 => ("GlassHallModel", "firsts", "[I", true)
  | 18 => ("GlassHallModel", "seconds", "[I", true)
  | 19 => ("GlassHallModel", "states", "[I", true)
  | 20 => ("GlassHallModel", "orders", "I", false)
  | 21 => ("GlassHallModel", "orderW", "[I", true)
  | 22 => ("GlassHallModel", "orderH", "[I", true)
  | 23 => ("GlassHallModel", "turns", "[Z", true)
  | 24 => ("GlassHallModel", "open", "[I", true)
  | 25 => ("GlassHallModel", "coming", "[I", true)
  | 26 => ("GlassHallModel", "done", "[I", true)
  | 27 => ("GlassHallModel", "offcuts", "I", false)
  | 28 => ("GlassHallModel", "offW", "[I", true)
  | 29 => ("GlassHallModel", "offH", "[I", true)
  | 30 => ("GlassHallModel", "offFlawCounts", "[I", true)
  | 31 => ("GlassHallModel", "offFlaws", "[I", true)
  | 32 => ("GlassHallModel", "doneArea", "J", false)
  | 33 => ("GlassHallModel", "wasteArea", "J", false)
  | 34 => ("GlassHallModel", "brokenArea", "J", false)
  | 35 => ("GlassHallModel", "madeArea", "J", false)
  | 36 => ("GlassHallModel", "panes", "I", false)
  | 37 => ("GlassHallModel", "paneOrder", "[I", true)
  | 38 => ("GlassHallModel", "paneW", "[I", true)
  | 39 => ("GlassHallModel", "paneH", "[I", true)
  | 40 => ("GlassHallModel", "paneColumn", "[I", true)
  | 41 => ("GlassHallModel", "paneRow", "[I", true)
  | 42 => ("GlassHallModel", "taken", "[I", true)
  | 43 => ("GlassHallModel", "pieces", "I", false)
  | 44 => ("GlassHallModel", "pieceHas", "[I", true)
  | 45 => ("GlassHallModel", "pieceColumn", "[I", true)
  | 46 => ("GlassHallModel", "pieceRow", "[I", true)
  | 47 => ("GlassHallModel", "piecePane", "[I", true)
  | 48 => ("GlassHallModel", "pieceX", "[I", true)
  | 49 => ("GlassHallModel", "pieceY", "[I", true)
  | 50 => ("GlassHallModel", "pieceW", "[I", true)
  | 51 => ("GlassHallModel", "pieceH", "[I", true)
  | _ => ("GlassHallModel", "pieceOf", "[I", true)
def tyMo : Nat → FieldType := fun k => match k with
  | 0 => .int
  | 1 => .int
  | 2 => .array (.boolean)
  | 3 => .array (.int)
  | 4 => .array (.int)
  | 5 => .array (.int)
  | 6 => .array (.boolean)
  | 7 => .array (.boolean)
  | 8 => .array (.int)
  | 9 => .array (.int)
  | 10 => .array (.int)
  | 11 => .array (.int)
  | 12 => .array (.int)
  | 13 => .array (.int)
  | 14 => .array (.int)
  | 15 => .array (.int)
  | 16 => .array (.int)
  | 17 => .array (.int)
  | 18 => .array (.int)
  | 19 => .array (.int)
  | 20 => .int
  | 21 => .array (.int)
  | 22 => .array (.int)
  | 23 => .array (.boolean)
  | 24 => .array (.int)
  | 25 => .array (.int)
  | 26 => .array (.int)
  | 27 => .int
  | 28 => .array (.int)
  | 29 => .array (.int)
  | 30 => .array (.int)
  | 31 => .array (.int)
  | 32 => .long
  | 33 => .long
  | 34 => .long
  | 35 => .long
  | 36 => .int
  | 37 => .array (.int)
  | 38 => .array (.int)
  | 39 => .array (.int)
  | 40 => .array (.int)
  | 41 => .array (.int)
  | 42 => .array (.int)
  | 43 => .int
  | 44 => .array (.int)
  | 45 => .array (.int)
  | 46 => .array (.int)
  | 47 => .array (.int)
  | 48 => .array (.int)
  | 49 => .array (.int)
  | 50 => .array (.int)
  | 51 => .array (.int)
  | _ => .array (.int)
theorem nmMo : ∀ a, a < 53 → ∀ b, b < 53 → a ≠ b → (TMo a).2.1 ≠ (TMo b).2.1 := by decide +kernel
theorem tyMo_ok : ∀ k, k < 53 → parseFieldDescriptor (TMo k).2.2.1 = some (tyMo k) := by decide +kernel
def T0 : u_T := fun _ => ("", "", "", false)
def RNse : String := "java/util/NoSuchElementException"
def RIae : String := "java/lang/IllegalArgumentException"
def RIse : String := "java/lang/IllegalStateException"
def RIoo : String := "java/lang/IndexOutOfBoundsException"
def xcl : List vw_C := [(RGl, TGl, 7), (RLa, TLa, 6), (ROr, TOr, 6), (RBk, TBk, 3), (RRk, TRk, 2), (RSh, TSh, 4), (RSt, TSt, 7), (RTr, TTr, 9), (RTi, TTi, 4), (RHa, THa, 11), (RMo, TMo, 53), (RNse, T0, 0), (RIae, T0, 0), (RIse, T0, 0), (RIoo, T0, 0)]
/-- words that stay true as the tables grow warmer, whatever the heap -/
def xOk (w : Cond) : Bool := (w.onTables && (w.keeps || w.keepsH)) || match w with
  | .castable .. => true
  | .declares .. => true
  | .arrayOver (.object _) => true
  | .arrayClass _ => true
  | _ => false
theorem xOk_warm {w : Cond} (h : xOk w = true) {s U : State} {args a' : Array Value} (hW : s.WarmedH U.vm) (hb : w.before args s = true) : w.before a' U = true := by
  unfold xOk at h
  rw [Bool.or_eq_true] at h
  rcases h with h | h
  · rw [Bool.and_eq_true, Bool.or_eq_true] at h
    obtain ⟨h1, h2 | h2⟩ := h
    · have := Cond.onTables_warm (T := U) (args' := a') hW h1 h2 hb
      rwa [State.setVm_self] at this
    · have := Cond.onTables_warmH (T := U) (args' := a') hW h1 h2 hb
      rwa [State.setVm_self] at this
  · cases w with
    | castable C D => exact va_Nw.use rfl (va_Nw.warmC hW (va_Nw.of rfl hb))
    | declares x => exact va_Nw.use rfl (va_Nw.warmD hW (va_Nw.of rfl hb))
    | arrayOver ty =>
      cases ty with
      | object C => exact va_AO.use (va_AO.moved hW.alike (va_AO.of hb))
      | _ => cases h
    | arrayClass ty => exact word_at hW (Or.inr ⟨ty, rfl⟩) hb
    | _ => cases h
def xWS : List Cond := lw_tbl.filter xOk
theorem xWS_warm (w : Cond) (hw : w ∈ xWS) {s U : State} {args a' : Array Value} (hW : s.WarmedH U.vm) (hb : w.before args s = true) : w.before a' U = true := xOk_warm (List.mem_filter.mp hw).2 hW hb
theorem xIn {w : Cond} (i : Nat) (h : tables_1[i]? = some w) (ho : xOk w = true) : w ∈ xWS := List.mem_filter.mpr ⟨List.mem_append_right _ (List.mem_of_getElem? h), ho⟩
theorem xInS {y : MethodName} {C : String} (i n : Nat) (h : lw_privs[i]? = some (y, n)) (hC : y.cls = C) : Cond.selects C y y ∈ xWS := by
  subst hC
  refine List.mem_filter.mpr ⟨List.mem_append_left _ ?_, rfl⟩
  exact List.mem_map.mpr ⟨(y, n), List.mem_of_getElem? h, rfl⟩
theorem xSub (ws : List Cond) (ps : List Nat) (h : ws = ps.filterMap (fun i => tables_1[i]?)) (ho : ws.all xOk = true) : ∀ w ∈ ws, w ∈ xWS := by
  intro w hw
  have h1 := List.all_eq_true.mp ho w hw
  rw [h] at hw
  obtain ⟨i, -, hi⟩ := List.mem_filterMap.mp hw
  exact xIn i hi h1
def xSW : List Cond := [.laysStatic Bundle.tN "UNASSIGNED_STACK" Bundle.steD, .laysStatic Bundle.tN "SUPPRESSED_SENTINEL" Bundle.listD, .isRef (.static Bundle.tN "UNASSIGNED_STACK" Bundle.steD), .isRef (.static Bundle.tN "SUPPRESSED_SENTINEL" Bundle.listD)]
def m_Ha_init : MethodName × ByteArray × Nat × Option FieldType × List (Nat × Nat × Nat × Nat) := (⟨RHa, "<init>", "()V"⟩, prog_1_method_1_code, 2, none, [])
def m_Bk_init : MethodName × ByteArray × Nat × Option FieldType × List (Nat × Nat × Nat × Nat) := (⟨RBk, "<init>", "()V"⟩, prog_5_method_1_code, 1, none, [])
def m_Rk_init : MethodName × ByteArray × Nat × Option FieldType × List (Nat × Nat × Nat × Nat) := (⟨RRk, "<init>", "()V"⟩, prog_6_method_1_code, 2, none, [])
def m_Gl_init : MethodName × ByteArray × Nat × Option FieldType × List (Nat × Nat × Nat × Nat) := (⟨RGl, "<init>", "()V"⟩, prog_2_method_1_code, 1, none, [])
def m_La_init : MethodName × ByteArray × Nat × Option FieldType × List (Nat × Nat × Nat × Nat) := (⟨RLa, "<init>", "()V"⟩, prog_3_method_1_code, 1, none, [])
def m_St_init : MethodName × ByteArray × Nat × Option FieldType × List (Nat × Nat × Nat × Nat) := (⟨RSt, "<init>", "(LGlassHall$OrderBook;LGlassHall$Layout;)V"⟩, prog_8_method_1_code, 3, none, [])
def m_Ti_init : MethodName × ByteArray × Nat × Option FieldType × List (Nat × Nat × Nat × Nat) := (⟨RTi, "<init>", "(LGlassHall$OrderBook;LGlassHall$Layout;)V"⟩, prog_10_method_1_code, 3, none, [])
def m_Sh_init : MethodName × ByteArray × Nat × Option FieldType × List (Nat × Nat × Nat × Nat) := (⟨RSh, "<init>", "()V"⟩, prog_7_method_1_code, 1, none, [])
def m_Tr_init : MethodName × ByteArray × Nat × Option FieldType × List (Nat × Nat × Nat × Nat) := (⟨RTr, "<init>", "()V"⟩, prog_9_method_1_code, 1, none, [])
def m_Ha_fit : MethodName × ByteArray × Nat × Option FieldType × List (Nat × Nat × Nat × Nat) := (⟨RHa, "fit", "(II)I"⟩, prog_1_method_14_code, 3, some Jvm.ClassFile.FieldType.int, [])
def m_Rk_smallestFor : MethodName × ByteArray × Nat × Option FieldType × List (Nat × Nat × Nat × Nat) := (⟨RRk, "smallestFor", "(II)I"⟩, prog_6_method_5_code, 8, some Jvm.ClassFile.FieldType.int, [])
def m_Gl_surface : MethodName × ByteArray × Nat × Option FieldType × List (Nat × Nat × Nat × Nat) := (⟨RGl, "surface", "()J"⟩, prog_2_method_6_code, 1, some Jvm.ClassFile.FieldType.long, [])
def m_Ha_area : MethodName × ByteArray × Nat × Option FieldType × List (Nat × Nat × Nat × Nat) := (⟨RHa, "area", "(I)J"⟩, prog_1_method_17_code, 2, some Jvm.ClassFile.FieldType.long, [])
def m_Ha_unplannedArea : MethodName × ByteArray × Nat × Option FieldType × List (Nat × Nat × Nat × Nat) := (⟨RHa, "unplannedArea", "()J"⟩, prog_1_method_31_code, 7, some Jvm.ClassFile.FieldType.long, [])
def m_Tr_isGrown : MethodName × ByteArray × Nat × Option FieldType × List (Nat × Nat × Nat × Nat) := (⟨RTr, "isGrown", "()Z"⟩, prog_9_method_2_code, 1, some Jvm.ClassFile.FieldType.boolean, [])
def m_Rk_surface : MethodName × ByteArray × Nat × Option FieldType × List (Nat × Nat × Nat × Nat) := (⟨RRk, "surface", "()J"⟩, prog_6_method_6_code, 4, some Jvm.ClassFile.FieldType.long, [])
def m_Ha_waitingArea : MethodName × ByteArray × Nat × Option FieldType × List (Nat × Nat × Nat × Nat) := (⟨RHa, "waitingArea", "()J"⟩, prog_1_method_32_code, 7, some Jvm.ClassFile.FieldType.long, [])
def m_Tr_waitingSurface : MethodName × ByteArray × Nat × Option FieldType × List (Nat × Nat × Nat × Nat) := (⟨RTr, "waitingSurface", "()J"⟩, prog_9_method_15_code, 4, some Jvm.ClassFile.FieldType.long, [])
def m_Tr_surface : MethodName × ByteArray × Nat × Option FieldType × List (Nat × Nat × Nat × Nat) := (⟨RTr, "surface", "(I)J"⟩, prog_9_method_6_code, 2, some Jvm.ClassFile.FieldType.long, [])
def m_Ha_total : MethodName × ByteArray × Nat × Option FieldType × List (Nat × Nat × Nat × Nat) := (⟨RHa, "total", "(I)I"⟩, prog_1_method_18_code, 2, some Jvm.ClassFile.FieldType.int, [])
def m_Ha_countSheets : MethodName × ByteArray × Nat × Option FieldType × List (Nat × Nat × Nat × Nat) := (⟨RHa, "countSheets", "(Z)I"⟩, prog_1_method_33_code, 7, some Jvm.ClassFile.FieldType.int, [])
def m_Lw_sheet : MethodName × ByteArray × Nat × Option FieldType × List (Nat × Nat × Nat × Nat) := (⟨RLw, "sheet", "(LGlassHall;II[J)I"⟩, method_3_code, 5, some Jvm.ClassFile.FieldType.int, [(0, 10, 13, 13), (0, 10, 17, 15)])
def m_Ha_sheet : MethodName × ByteArray × Nat × Option FieldType × List (Nat × Nat × Nat × Nat) := (⟨RHa, "sheet", "(II)I"⟩, prog_1_method_2_code, 4, some Jvm.ClassFile.FieldType.int, [])
def m_Ha_isLength : MethodName × ByteArray × Nat × Option FieldType × List (Nat × Nat × Nat × Nat) := (⟨RHa, "isLength", "(I)Z"⟩, prog_1_method_19_code, 1, some Jvm.ClassFile.FieldType.boolean, [])
def m_Ha_findFreeSlot : MethodName × ByteArray × Nat × Option FieldType × List (Nat × Nat × Nat × Nat) := (⟨RHa, "findFreeSlot", "()LGlassHall$Sheet;"⟩, prog_1_method_21_code, 5, some (Jvm.ClassFile.FieldType.object "GlassHall$Sheet"), [])
def m_Gl_become : MethodName × ByteArray × Nat × Option FieldType × List (Nat × Nat × Nat × Nat) := (⟨RGl, "become", "(II)V"⟩, prog_2_method_2_code, 3, none, [])
def m_Ha_bringIn : MethodName × ByteArray × Nat × Option FieldType × List (Nat × Nat × Nat × Nat) := (⟨RHa, "bringIn", "(LGlassHall$Sheet;)I"⟩, prog_1_method_25_code, 2, some Jvm.ClassFile.FieldType.int, [])
def m_Lw_flaw : MethodName × ByteArray × Nat × Option FieldType × List (Nat × Nat × Nat × Nat) := (⟨RLw, "flaw", "(LGlassHall;IIIII[J)I"⟩, method_4_code, 8, some Jvm.ClassFile.FieldType.int, [(0, 16, 19, 21), (0, 16, 23, 13), (0, 16, 27, 15)])
def m_Ha_flaw : MethodName × ByteArray × Nat × Option FieldType × List (Nat × Nat × Nat × Nat) := (⟨RHa, "flaw", "(IIIII)I"⟩, prog_1_method_3_code, 8, some Jvm.ClassFile.FieldType.int, [])
def m_Ha_findSheet : MethodName × ByteArray × Nat × Option FieldType × List (Nat × Nat × Nat × Nat) := (⟨RHa, "findSheet", "(I)LGlassHall$Sheet;"⟩, prog_1_method_22_code, 6, some (Jvm.ClassFile.FieldType.object "GlassHall$Sheet"), [])
def m_Ha_liesIn : MethodName × ByteArray × Nat × Option FieldType × List (Nat × Nat × Nat × Nat) := (⟨RHa, "liesIn", "(III)Z"⟩, prog_1_method_20_code, 3, some Jvm.ClassFile.FieldType.boolean, [])
def m_Gl_addFlaw : MethodName × ByteArray × Nat × Option FieldType × List (Nat × Nat × Nat × Nat) := (⟨RGl, "addFlaw", "(IIII)V"⟩, prog_2_method_4_code, 5, none, [])
def m_Lw_order : MethodName × ByteArray × Nat × Option FieldType × List (Nat × Nat × Nat × Nat) := (⟨RLw, "order", "(LGlassHall;IIZI[J)I"⟩, method_5_code, 7, some Jvm.ClassFile.FieldType.int, [(0, 14, 17, 13), (0, 14, 21, 15)])
def m_Ha_order : MethodName × ByteArray × Nat × Option FieldType × List (Nat × Nat × Nat × Nat) := (⟨RHa, "order", "(IIZI)I"⟩, prog_1_method_4_code, 5, some Jvm.ClassFile.FieldType.int, [])
def m_Or_init : MethodName × ByteArray × Nat × Option FieldType × List (Nat × Nat × Nat × Nat) := (⟨ROr, "<init>", "(IIZI)V"⟩, prog_4_method_1_code, 5, none, [])
def m_Bk_add : MethodName × ByteArray × Nat × Option FieldType × List (Nat × Nat × Nat × Nat) := (⟨RBk, "add", "(LGlassHall$Order;)I"⟩, prog_5_method_3_code, 4, some Jvm.ClassFile.FieldType.int, [])
def m_Or_goesBefore : MethodName × ByteArray × Nat × Option FieldType × List (Nat × Nat × Nat × Nat) := (⟨ROr, "goesBefore", "(LGlassHall$Order;)Z"⟩, prog_4_method_2_code, 2, some Jvm.ClassFile.FieldType.boolean, [])
def m_Lw_plan : MethodName × ByteArray × Nat × Option FieldType × List (Nat × Nat × Nat × Nat) := (⟨RLw, "plan", "(LGlassHall;I[J)I"⟩, method_6_code, 4, some Jvm.ClassFile.FieldType.int, [(0, 9, 12, 21), (0, 9, 15, 15)])
def m_Ha_plan : MethodName × ByteArray × Nat × Option FieldType × List (Nat × Nat × Nat × Nat) := (⟨RHa, "plan", "(I)I"⟩, prog_1_method_5_code, 3, some Jvm.ClassFile.FieldType.int, [])
def m_St_fill : MethodName × ByteArray × Nat × Option FieldType × List (Nat × Nat × Nat × Nat) := (⟨RSt, "fill", "(LGlassHall$Glass;)V"⟩, prog_8_method_2_code, 4, none, [])
def m_La_clear : MethodName × ByteArray × Nat × Option FieldType × List (Nat × Nat × Nat × Nat) := (⟨RLa, "clear", "()V"⟩, prog_3_method_2_code, 1, none, [])
def m_St_stackColumn : MethodName × ByteArray × Nat × Option FieldType × List (Nat × Nat × Nat × Nat) := (⟨RSt, "stackColumn", "(LGlassHall$Glass;)I"⟩, prog_8_method_3_code, 5, some Jvm.ClassFile.FieldType.int, [])
def m_St_takeFirst : MethodName × ByteArray × Nat × Option FieldType × List (Nat × Nat × Nat × Nat) := (⟨RSt, "takeFirst", "(LGlassHall$Glass;)Z"⟩, prog_8_method_4_code, 3, some Jvm.ClassFile.FieldType.boolean, [])
def m_St_take : MethodName × ByteArray × Nat × Option FieldType × List (Nat × Nat × Nat × Nat) := (⟨RSt, "take", "(LGlassHall$Glass;IZ)Z"⟩, prog_8_method_5_code, 7, some Jvm.ClassFile.FieldType.boolean, [])
def m_Bk_at : MethodName × ByteArray × Nat × Option FieldType × List (Nat × Nat × Nat × Nat) := (⟨RBk, "at", "(I)LGlassHall$Order;"⟩, prog_5_method_2_code, 2, some (Jvm.ClassFile.FieldType.object "GlassHall$Order"), [])
def m_La_countOf : MethodName × ByteArray × Nat × Option FieldType × List (Nat × Nat × Nat × Nat) := (⟨RLa, "countOf", "(I)I"⟩, prog_3_method_6_code, 4, some Jvm.ClassFile.FieldType.int, [])
def m_Gl_isClear : MethodName × ByteArray × Nat × Option FieldType × List (Nat × Nat × Nat × Nat) := (⟨RGl, "isClear", "(IIII)Z"⟩, prog_2_method_5_code, 8, some Jvm.ClassFile.FieldType.boolean, [])
def m_La_put : MethodName × ByteArray × Nat × Option FieldType × List (Nat × Nat × Nat × Nat) := (⟨RLa, "put", "(IIIII)V"⟩, prog_3_method_3_code, 6, none, [])
def m_Ha_adoptLayout : MethodName × ByteArray × Nat × Option FieldType × List (Nat × Nat × Nat × Nat) := (⟨RHa, "adoptLayout", "(LGlassHall$Sheet;)I"⟩, prog_1_method_26_code, 3, some Jvm.ClassFile.FieldType.int, [])
def m_Tr_grow : MethodName × ByteArray × Nat × Option FieldType × List (Nat × Nat × Nat × Nat) := (⟨RTr, "grow", "(LGlassHall$Layout;II)V"⟩, prog_9_method_7_code, 9, none, [])
def m_Tr_clear : MethodName × ByteArray × Nat × Option FieldType × List (Nat × Nat × Nat × Nat) := (⟨RTr, "clear", "()V"⟩, prog_9_method_3_code, 1, none, [])
def m_La_columns : MethodName × ByteArray × Nat × Option FieldType × List (Nat × Nat × Nat × Nat) := (⟨RLa, "columns", "()I"⟩, prog_3_method_7_code, 3, some Jvm.ClassFile.FieldType.int, [])
def m_La_columnWidth : MethodName × ByteArray × Nat × Option FieldType × List (Nat × Nat × Nat × Nat) := (⟨RLa, "columnWidth", "(I)I"⟩, prog_3_method_11_code, 5, some Jvm.ClassFile.FieldType.int, [])
def m_La_rowsIn : MethodName × ByteArray × Nat × Option FieldType × List (Nat × Nat × Nat × Nat) := (⟨RLa, "rowsIn", "(I)I"⟩, prog_3_method_8_code, 4, some Jvm.ClassFile.FieldType.int, [])
def m_La_rowWidth : MethodName × ByteArray × Nat × Option FieldType × List (Nat × Nat × Nat × Nat) := (⟨RLa, "rowWidth", "(II)I"⟩, prog_3_method_9_code, 5, some Jvm.ClassFile.FieldType.int, [])
def m_La_isIn : MethodName × ByteArray × Nat × Option FieldType × List (Nat × Nat × Nat × Nat) := (⟨RLa, "isIn", "(III)Z"⟩, prog_3_method_5_code, 4, some Jvm.ClassFile.FieldType.boolean, [])
def m_Tr_add : MethodName × ByteArray × Nat × Option FieldType × List (Nat × Nat × Nat × Nat) := (⟨RTr, "add", "(IIIIII)I"⟩, prog_9_method_11_code, 7, some Jvm.ClassFile.FieldType.int, [])
def m_Tr_growColumn : MethodName × ByteArray × Nat × Option FieldType × List (Nat × Nat × Nat × Nat) := (⟨RTr, "growColumn", "(LGlassHall$Layout;IIII)V"⟩, prog_9_method_8_code, 11, none, [])
def m_La_rowHeight : MethodName × ByteArray × Nat × Option FieldType × List (Nat × Nat × Nat × Nat) := (⟨RLa, "rowHeight", "(II)I"⟩, prog_3_method_10_code, 5, some Jvm.ClassFile.FieldType.int, [])
def m_Tr_growRow : MethodName × ByteArray × Nat × Option FieldType × List (Nat × Nat × Nat × Nat) := (⟨RTr, "growRow", "(LGlassHall$Layout;IIIIII)V"⟩, prog_9_method_9_code, 13, none, [])
def m_Tr_growCell : MethodName × ByteArray × Nat × Option FieldType × List (Nat × Nat × Nat × Nat) := (⟨RTr, "growCell", "(LGlassHall$Layout;IIII)V"⟩, prog_9_method_10_code, 9, none, [])
def m_Tr_beginSecond : MethodName × ByteArray × Nat × Option FieldType × List (Nat × Nat × Nat × Nat) := (⟨RTr, "beginSecond", "(I)V"⟩, prog_9_method_13_code, 2, none, [])
def m_Tr_addRest : MethodName × ByteArray × Nat × Option FieldType × List (Nat × Nat × Nat × Nat) := (⟨RTr, "addRest", "(IIII)V"⟩, prog_9_method_12_code, 5, none, [])
def m_Bk_takeUp : MethodName × ByteArray × Nat × Option FieldType × List (Nat × Nat × Nat × Nat) := (⟨RBk, "takeUp", "(I)V"⟩, prog_5_method_4_code, 3, none, [])
def m_Lw_exact : MethodName × ByteArray × Nat × Option FieldType × List (Nat × Nat × Nat × Nat) := (⟨RLw, "exact", "(LGlassHall;IIII[J)I"⟩, method_7_code, 7, some Jvm.ClassFile.FieldType.int, [(0, 14, 17, 21), (0, 14, 21, 15)])
def m_Ha_exact : MethodName × ByteArray × Nat × Option FieldType × List (Nat × Nat × Nat × Nat) := (⟨RHa, "exact", "(IIII)I"⟩, prog_1_method_6_code, 6, some Jvm.ClassFile.FieldType.int, [])
def m_Ti_callNames : MethodName × ByteArray × Nat × Option FieldType × List (Nat × Nat × Nat × Nat) := (⟨RTi, "callNames", "(III)V"⟩, prog_10_method_2_code, 4, none, [])
def m_Ti_addName : MethodName × ByteArray × Nat × Option FieldType × List (Nat × Nat × Nat × Nat) := (⟨RTi, "addName", "(I)V"⟩, prog_10_method_3_code, 2, none, [])
def m_Ti_namesAreThere : MethodName × ByteArray × Nat × Option FieldType × List (Nat × Nat × Nat × Nat) := (⟨RTi, "namesAreThere", "()Z"⟩, prog_10_method_4_code, 2, some Jvm.ClassFile.FieldType.boolean, [])
def m_Ti_namesAreOpen : MethodName × ByteArray × Nat × Option FieldType × List (Nat × Nat × Nat × Nat) := (⟨RTi, "namesAreOpen", "()Z"⟩, prog_10_method_5_code, 3, some Jvm.ClassFile.FieldType.boolean, [])
def m_Ti_timesNamed : MethodName × ByteArray × Nat × Option FieldType × List (Nat × Nat × Nat × Nat) := (⟨RTi, "timesNamed", "(I)I"⟩, prog_10_method_6_code, 4, some Jvm.ClassFile.FieldType.int, [])
def m_Ti_fill : MethodName × ByteArray × Nat × Option FieldType × List (Nat × Nat × Nat × Nat) := (⟨RTi, "fill", "(LGlassHall$Glass;)V"⟩, prog_10_method_7_code, 2, none, [])
def m_Ti_placeFrom : MethodName × ByteArray × Nat × Option FieldType × List (Nat × Nat × Nat × Nat) := (⟨RTi, "placeFrom", "(LGlassHall$Glass;I)Z"⟩, prog_10_method_8_code, 7, some Jvm.ClassFile.FieldType.boolean, [])
def m_Ti_placeAt : MethodName × ByteArray × Nat × Option FieldType × List (Nat × Nat × Nat × Nat) := (⟨RTi, "placeAt", "(LGlassHall$Glass;IIIZ)Z"⟩, prog_10_method_9_code, 7, some Jvm.ClassFile.FieldType.boolean, [])
def m_La_fitsOn : MethodName × ByteArray × Nat × Option FieldType × List (Nat × Nat × Nat × Nat) := (⟨RLa, "fitsOn", "(LGlassHall$Glass;)Z"⟩, prog_3_method_13_code, 5, some Jvm.ClassFile.FieldType.boolean, [])
def m_La_columnHeight : MethodName × ByteArray × Nat × Option FieldType × List (Nat × Nat × Nat × Nat) := (⟨RLa, "columnHeight", "(I)I"⟩, prog_3_method_12_code, 5, some Jvm.ClassFile.FieldType.int, [])
def m_La_dropLast : MethodName × ByteArray × Nat × Option FieldType × List (Nat × Nat × Nat × Nat) := (⟨RLa, "dropLast", "()V"⟩, prog_3_method_4_code, 1, none, [])
def m_Lw_node : MethodName × ByteArray × Nat × Option FieldType × List (Nat × Nat × Nat × Nat) := (⟨RLw, "node", "(LGlassHall;III[J)I"⟩, method_8_code, 6, some Jvm.ClassFile.FieldType.int, [(0, 12, 15, 21), (0, 12, 19, 15), (0, 12, 23, 39), (0, 12, 27, 13)])
def m_Ha_node : MethodName × ByteArray × Nat × Option FieldType × List (Nat × Nat × Nat × Nat) := (⟨RHa, "node", "(III)I"⟩, prog_1_method_7_code, 5, some Jvm.ClassFile.FieldType.int, [])
def m_Ha_findPlanned : MethodName × ByteArray × Nat × Option FieldType × List (Nat × Nat × Nat × Nat) := (⟨RHa, "findPlanned", "(I)LGlassHall$Sheet;"⟩, prog_1_method_23_code, 3, some (Jvm.ClassFile.FieldType.object "GlassHall$Sheet"), [])
def m_Tr_has : MethodName × ByteArray × Nat × Option FieldType × List (Nat × Nat × Nat × Nat) := (⟨RTr, "has", "(I)Z"⟩, prog_9_method_4_code, 2, some Jvm.ClassFile.FieldType.boolean, [])
def m_Tr_tell : MethodName × ByteArray × Nat × Option FieldType × List (Nat × Nat × Nat × Nat) := (⟨RTr, "tell", "(II)I"⟩, prog_9_method_18_code, 3, some Jvm.ClassFile.FieldType.int, [])
def m_Tr_isCut : MethodName × ByteArray × Nat × Option FieldType × List (Nat × Nat × Nat × Nat) := (⟨RTr, "isCut", "(I)Z"⟩, prog_9_method_5_code, 2, some Jvm.ClassFile.FieldType.boolean, [])
def m_Lw_nodes : MethodName × ByteArray × Nat × Option FieldType × List (Nat × Nat × Nat × Nat) := (⟨RLw, "nodes", "(LGlassHall;I[J)I"⟩, method_9_code, 4, some Jvm.ClassFile.FieldType.int, [(0, 9, 12, 21), (0, 9, 15, 15)])
def m_Ha_nodes : MethodName × ByteArray × Nat × Option FieldType × List (Nat × Nat × Nat × Nat) := (⟨RHa, "nodes", "(I)I"⟩, prog_1_method_8_code, 2, some Jvm.ClassFile.FieldType.int, [])
def m_Lw_score : MethodName × ByteArray × Nat × Option FieldType × List (Nat × Nat × Nat × Nat) := (⟨RLw, "score", "(LGlassHall;I[J)I"⟩, method_10_code, 4, some Jvm.ClassFile.FieldType.int, [(0, 9, 12, 21), (0, 9, 15, 15)])
def m_Ha_score : MethodName × ByteArray × Nat × Option FieldType × List (Nat × Nat × Nat × Nat) := (⟨RHa, "score", "(I)I"⟩, prog_1_method_9_code, 5, some Jvm.ClassFile.FieldType.int, [])
def m_Tr_firstWaiting : MethodName × ByteArray × Nat × Option FieldType × List (Nat × Nat × Nat × Nat) := (⟨RTr, "firstWaiting", "()I"⟩, prog_9_method_14_code, 2, some Jvm.ClassFile.FieldType.int, [])
def m_Ha_letWait : MethodName × ByteArray × Nat × Option FieldType × List (Nat × Nat × Nat × Nat) := (⟨RHa, "letWait", "(LGlassHall$Sheet;I)V"⟩, prog_1_method_27_code, 4, none, [])
def m_Bk_finish : MethodName × ByteArray × Nat × Option FieldType × List (Nat × Nat × Nat × Nat) := (⟨RBk, "finish", "(I)V"⟩, prog_5_method_6_code, 3, none, [])
def m_Ha_putAway : MethodName × ByteArray × Nat × Option FieldType × List (Nat × Nat × Nat × Nat) := (⟨RHa, "putAway", "(LGlassHall$Sheet;I)V"⟩, prog_1_method_28_code, 5, none, [])
def m_Rk_addPart : MethodName × ByteArray × Nat × Option FieldType × List (Nat × Nat × Nat × Nat) := (⟨RRk, "addPart", "(LGlassHall$Glass;IIII)V"⟩, prog_6_method_3_code, 6, none, [])
def m_Gl_becomePart : MethodName × ByteArray × Nat × Option FieldType × List (Nat × Nat × Nat × Nat) := (⟨RGl, "becomePart", "(LGlassHall$Glass;IIII)V"⟩, prog_2_method_3_code, 11, none, [])
def m_Ha_clearAwayIfEmpty : MethodName × ByteArray × Nat × Option FieldType × List (Nat × Nat × Nat × Nat) := (⟨RHa, "clearAwayIfEmpty", "(LGlassHall$Sheet;)V"⟩, prog_1_method_30_code, 2, none, [])
def m_Lw_broke : MethodName × ByteArray × Nat × Option FieldType × List (Nat × Nat × Nat × Nat) := (⟨RLw, "broke", "(LGlassHall;II[J)I"⟩, method_11_code, 5, some Jvm.ClassFile.FieldType.int, [(0, 10, 13, 21), (0, 10, 17, 15), (0, 10, 21, 39)])
def m_Ha_broke : MethodName × ByteArray × Nat × Option FieldType × List (Nat × Nat × Nat × Nat) := (⟨RHa, "broke", "(II)I"⟩, prog_1_method_10_code, 6, some Jvm.ClassFile.FieldType.int, [])
def m_Ha_reopenPanes : MethodName × ByteArray × Nat × Option FieldType × List (Nat × Nat × Nat × Nat) := (⟨RHa, "reopenPanes", "(LGlassHall$Tree;I)I"⟩, prog_1_method_29_code, 6, some Jvm.ClassFile.FieldType.int, [])
def m_Tr_endOf : MethodName × ByteArray × Nat × Option FieldType × List (Nat × Nat × Nat × Nat) := (⟨RTr, "endOf", "(I)I"⟩, prog_9_method_16_code, 4, some Jvm.ClassFile.FieldType.int, [])
def m_Bk_reopen : MethodName × ByteArray × Nat × Option FieldType × List (Nat × Nat × Nat × Nat) := (⟨RBk, "reopen", "(I)V"⟩, prog_5_method_5_code, 3, none, [])
def m_Tr_breakFrom : MethodName × ByteArray × Nat × Option FieldType × List (Nat × Nat × Nat × Nat) := (⟨RTr, "breakFrom", "(I)V"⟩, prog_9_method_17_code, 4, none, [])
def m_Lw_cancel : MethodName × ByteArray × Nat × Option FieldType × List (Nat × Nat × Nat × Nat) := (⟨RLw, "cancel", "(LGlassHall;I[J)I"⟩, method_12_code, 4, some Jvm.ClassFile.FieldType.int, [(0, 9, 12, 21), (0, 9, 15, 15)])
def m_Ha_cancel : MethodName × ByteArray × Nat × Option FieldType × List (Nat × Nat × Nat × Nat) := (⟨RHa, "cancel", "(I)I"⟩, prog_1_method_11_code, 4, some Jvm.ClassFile.FieldType.int, [])
def m_Lw_use : MethodName × ByteArray × Nat × Option FieldType × List (Nat × Nat × Nat × Nat) := (⟨RLw, "use", "(LGlassHall;I[J)I"⟩, method_13_code, 4, some Jvm.ClassFile.FieldType.int, [(0, 9, 12, 21), (0, 9, 15, 15)])
def m_Ha_use : MethodName × ByteArray × Nat × Option FieldType × List (Nat × Nat × Nat × Nat) := (⟨RHa, "use", "(I)I"⟩, prog_1_method_12_code, 4, some Jvm.ClassFile.FieldType.int, [])
def m_Ha_findOffcut : MethodName × ByteArray × Nat × Option FieldType × List (Nat × Nat × Nat × Nat) := (⟨RHa, "findOffcut", "(I)LGlassHall$Glass;"⟩, prog_1_method_24_code, 2, some (Jvm.ClassFile.FieldType.object "GlassHall$Glass"), [])
def m_Rk_has : MethodName × ByteArray × Nat × Option FieldType × List (Nat × Nat × Nat × Nat) := (⟨RRk, "has", "(I)Z"⟩, prog_6_method_2_code, 2, some Jvm.ClassFile.FieldType.boolean, [])
def m_Rk_remove : MethodName × ByteArray × Nat × Option FieldType × List (Nat × Nat × Nat × Nat) := (⟨RRk, "remove", "(I)V"⟩, prog_6_method_4_code, 4, none, [])
def m_Lw_rack : MethodName × ByteArray × Nat × Option FieldType × List (Nat × Nat × Nat × Nat) := (⟨RLw, "rack", "(LGlassHall;II[J)I"⟩, method_14_code, 5, some Jvm.ClassFile.FieldType.int, [(0, 10, 13, 21), (0, 10, 17, 13)])
def m_Ha_rack : MethodName × ByteArray × Nat × Option FieldType × List (Nat × Nat × Nat × Nat) := (⟨RHa, "rack", "(II)I"⟩, prog_1_method_13_code, 4, some Jvm.ClassFile.FieldType.int, [])
def m_Lw_flawed : MethodName × ByteArray × Nat × Option FieldType × List (Nat × Nat × Nat × Nat) := (⟨RLw, "flawed", "(LGlassHall;III[J)I"⟩, method_15_code, 6, some Jvm.ClassFile.FieldType.int, [(0, 12, 15, 21), (0, 12, 19, 39), (0, 12, 23, 13)])
def m_Ha_flawed : MethodName × ByteArray × Nat × Option FieldType × List (Nat × Nat × Nat × Nat) := (⟨RHa, "flawed", "(III)I"⟩, prog_1_method_15_code, 5, some Jvm.ClassFile.FieldType.int, [])
def m_Lw_panes : MethodName × ByteArray × Nat × Option FieldType × List (Nat × Nat × Nat × Nat) := (⟨RLw, "panes", "(LGlassHall;II[J)I"⟩, method_16_code, 5, some Jvm.ClassFile.FieldType.int, [(0, 10, 13, 21), (0, 10, 17, 13)])
def m_Ha_panes : MethodName × ByteArray × Nat × Option FieldType × List (Nat × Nat × Nat × Nat) := (⟨RHa, "panes", "(II)I"⟩, prog_1_method_16_code, 4, some Jvm.ClassFile.FieldType.int, [])
def m_Mo_init : MethodName × ByteArray × Nat × Option FieldType × List (Nat × Nat × Nat × Nat) := (⟨RMo, "<init>", "()V"⟩, prog_12_method_1_code, 1, none, [])
def m_Mo_thrown : MethodName × ByteArray × Nat × Option FieldType × List (Nat × Nat × Nat × Nat) := (⟨RMo, "thrown", "()I"⟩, prog_12_method_2_code, 1, some Jvm.ClassFile.FieldType.int, [])
def m_Mo_sheet : MethodName × ByteArray × Nat × Option FieldType × List (Nat × Nat × Nat × Nat) := (⟨RMo, "sheet", "(II)I"⟩, prog_12_method_8_code, 3, some Jvm.ClassFile.FieldType.int, [])
def m_Mo_isLength : MethodName × ByteArray × Nat × Option FieldType × List (Nat × Nat × Nat × Nat) := (⟨RMo, "isLength", "(I)Z"⟩, prog_12_method_6_code, 1, some Jvm.ClassFile.FieldType.boolean, [])
def m_Mo_sheets : MethodName × ByteArray × Nat × Option FieldType × List (Nat × Nat × Nat × Nat) := (⟨RMo, "sheets", "()I"⟩, prog_12_method_4_code, 3, some Jvm.ClassFile.FieldType.int, [])
def m_Mo_make : MethodName × ByteArray × Nat × Option FieldType × List (Nat × Nat × Nat × Nat) := (⟨RMo, "make", "(II)I"⟩, prog_12_method_7_code, 4, some Jvm.ClassFile.FieldType.int, [])
def m_Mo_flaw : MethodName × ByteArray × Nat × Option FieldType × List (Nat × Nat × Nat × Nat) := (⟨RMo, "flaw", "(IIIII)I"⟩, prog_12_method_10_code, 8, some Jvm.ClassFile.FieldType.int, [])
def m_Mo_find : MethodName × ByteArray × Nat × Option FieldType × List (Nat × Nat × Nat × Nat) := (⟨RMo, "find", "(I)I"⟩, prog_12_method_3_code, 4, some Jvm.ClassFile.FieldType.int, [])
def m_Mo_putFlaw : MethodName × ByteArray × Nat × Option FieldType × List (Nat × Nat × Nat × Nat) := (⟨RMo, "putFlaw", "(IIIII)V"⟩, prog_12_method_9_code, 7, none, [])
def m_Mo_order : MethodName × ByteArray × Nat × Option FieldType × List (Nat × Nat × Nat × Nat) := (⟨RMo, "order", "(IIZI)I"⟩, prog_12_method_11_code, 6, some Jvm.ClassFile.FieldType.int, [])
def m_Mo_plan : MethodName × ByteArray × Nat × Option FieldType × List (Nat × Nat × Nat × Nat) := (⟨RMo, "plan", "(I)I"⟩, prog_12_method_32_code, 3, some Jvm.ClassFile.FieldType.int, [])
def m_Mo_strips : MethodName × ByteArray × Nat × Option FieldType × List (Nat × Nat × Nat × Nat) := (⟨RMo, "strips", "(I)V"⟩, prog_12_method_25_code, 9, none, [])
def m_Mo_choose : MethodName × ByteArray × Nat × Option FieldType × List (Nat × Nat × Nat × Nat) := (⟨RMo, "choose", "(III)I"⟩, prog_12_method_24_code, 8, some Jvm.ClassFile.FieldType.int, [])
def m_Mo_isPossible : MethodName × ByteArray × Nat × Option FieldType × List (Nat × Nat × Nat × Nat) := (⟨RMo, "isPossible", "(IIIIZ)Z"⟩, prog_12_method_22_code, 12, some Jvm.ClassFile.FieldType.boolean, [])
def m_Mo_meets : MethodName × ByteArray × Nat × Option FieldType × List (Nat × Nat × Nat × Nat) := (⟨RMo, "meets", "(IIIIII)Z"⟩, prog_12_method_21_code, 8, some Jvm.ClassFile.FieldType.boolean, [])
def m_Mo_overlap : MethodName × ByteArray × Nat × Option FieldType × List (Nat × Nat × Nat × Nat) := (⟨RMo, "overlap", "(IIII)Z"⟩, prog_12_method_20_code, 4, some Jvm.ClassFile.FieldType.boolean, [])
def m_Mo_isBefore : MethodName × ByteArray × Nat × Option FieldType × List (Nat × Nat × Nat × Nat) := (⟨RMo, "isBefore", "(II)Z"⟩, prog_12_method_23_code, 3, some Jvm.ClassFile.FieldType.boolean, [])
def m_Mo_lay : MethodName × ByteArray × Nat × Option FieldType × List (Nat × Nat × Nat × Nat) := (⟨RMo, "lay", "(IZII)V"⟩, prog_12_method_12_code, 5, none, [])
def m_Mo_adopt : MethodName × ByteArray × Nat × Option FieldType × List (Nat × Nat × Nat × Nat) := (⟨RMo, "adopt", "(I)I"⟩, prog_12_method_31_code, 3, some Jvm.ClassFile.FieldType.int, [])
def m_Mo_push : MethodName × ByteArray × Nat × Option FieldType × List (Nat × Nat × Nat × Nat) := (⟨RMo, "push", "(IIIII)V"⟩, prog_12_method_26_code, 6, none, [])
def m_Mo_at : MethodName × ByteArray × Nat × Option FieldType × List (Nat × Nat × Nat × Nat) := (⟨RMo, "at", "(IIII)V"⟩, prog_12_method_27_code, 5, none, [])
def m_Mo_grow : MethodName × ByteArray × Nat × Option FieldType × List (Nat × Nat × Nat × Nat) := (⟨RMo, "grow", "(I)V"⟩, prog_12_method_29_code, 9, none, [])
def m_Mo_reach : MethodName × ByteArray × Nat × Option FieldType × List (Nat × Nat × Nat × Nat) := (⟨RMo, "reach", "(IIII)I"⟩, prog_12_method_28_code, 6, some Jvm.ClassFile.FieldType.int, [])
def m_Mo_paneAt : MethodName × ByteArray × Nat × Option FieldType × List (Nat × Nat × Nat × Nat) := (⟨RMo, "paneAt", "(III)I"⟩, prog_12_method_13_code, 6, some Jvm.ClassFile.FieldType.int, [])
def m_Mo_columnWidth : MethodName × ByteArray × Nat × Option FieldType × List (Nat × Nat × Nat × Nat) := (⟨RMo, "columnWidth", "(I)I"⟩, prog_12_method_16_code, 5, some Jvm.ClassFile.FieldType.int, [])
def m_Mo_rowWidth : MethodName × ByteArray × Nat × Option FieldType × List (Nat × Nat × Nat × Nat) := (⟨RMo, "rowWidth", "(II)I"⟩, prog_12_method_14_code, 5, some Jvm.ClassFile.FieldType.int, [])
def m_Mo_rowHeight : MethodName × ByteArray × Nat × Option FieldType × List (Nat × Nat × Nat × Nat) := (⟨RMo, "rowHeight", "(II)I"⟩, prog_12_method_15_code, 6, some Jvm.ClassFile.FieldType.int, [])
def m_Mo_split : MethodName × ByteArray × Nat × Option FieldType × List (Nat × Nat × Nat × Nat) := (⟨RMo, "split", "(IIIIII)V"⟩, prog_12_method_30_code, 10, none, [])
def m_Mo_exact : MethodName × ByteArray × Nat × Option FieldType × List (Nat × Nat × Nat × Nat) := (⟨RMo, "exact", "(IIII)I"⟩, prog_12_method_36_code, 7, some Jvm.ClassFile.FieldType.int, [])
def m_Mo_isOrder : MethodName × ByteArray × Nat × Option FieldType × List (Nat × Nat × Nat × Nat) := (⟨RMo, "isOrder", "(I)Z"⟩, prog_12_method_5_code, 2, some Jvm.ClassFile.FieldType.boolean, [])
def m_Mo_hasOpen : MethodName × ByteArray × Nat × Option FieldType × List (Nat × Nat × Nat × Nat) := (⟨RMo, "hasOpen", "(III)Z"⟩, prog_12_method_35_code, 7, some Jvm.ClassFile.FieldType.boolean, [])
def m_Mo_isFound : MethodName × ByteArray × Nat × Option FieldType × List (Nat × Nat × Nat × Nat) := (⟨RMo, "isFound", "(IIII)Z"⟩, prog_12_method_34_code, 9, some Jvm.ClassFile.FieldType.boolean, [])
def m_Mo_name : MethodName × ByteArray × Nat × Option FieldType × List (Nat × Nat × Nat × Nat) := (⟨RMo, "name", "(II)Z"⟩, prog_12_method_33_code, 6, some Jvm.ClassFile.FieldType.boolean, [])
def m_Mo_columns : MethodName × ByteArray × Nat × Option FieldType × List (Nat × Nat × Nat × Nat) := (⟨RMo, "columns", "()I"⟩, prog_12_method_18_code, 3, some Jvm.ClassFile.FieldType.int, [])
def m_Mo_rowsOf : MethodName × ByteArray × Nat × Option FieldType × List (Nat × Nat × Nat × Nat) := (⟨RMo, "rowsOf", "(I)I"⟩, prog_12_method_17_code, 4, some Jvm.ClassFile.FieldType.int, [])
def m_Mo_fits : MethodName × ByteArray × Nat × Option FieldType × List (Nat × Nat × Nat × Nat) := (⟨RMo, "fits", "(I)Z"⟩, prog_12_method_19_code, 6, some Jvm.ClassFile.FieldType.boolean, [])
def m_Mo_score : MethodName × ByteArray × Nat × Option FieldType × List (Nat × Nat × Nat × Nat) := (⟨RMo, "score", "(I)I"⟩, prog_12_method_40_code, 5, some Jvm.ClassFile.FieldType.int, [])
def m_Mo_arrive : MethodName × ByteArray × Nat × Option FieldType × List (Nat × Nat × Nat × Nat) := (⟨RMo, "arrive", "(II)V"⟩, prog_12_method_38_code, 5, none, [])
def m_Mo_store : MethodName × ByteArray × Nat × Option FieldType × List (Nat × Nat × Nat × Nat) := (⟨RMo, "store", "(II)V"⟩, prog_12_method_37_code, 11, none, [])
def m_Mo_leave : MethodName × ByteArray × Nat × Option FieldType × List (Nat × Nat × Nat × Nat) := (⟨RMo, "leave", "(I)V"⟩, prog_12_method_39_code, 4, none, [])
def m_Mo_broke : MethodName × ByteArray × Nat × Option FieldType × List (Nat × Nat × Nat × Nat) := (⟨RMo, "broke", "(II)I"⟩, prog_12_method_41_code, 9, some Jvm.ClassFile.FieldType.int, [])
def m_Mo_cancel : MethodName × ByteArray × Nat × Option FieldType × List (Nat × Nat × Nat × Nat) := (⟨RMo, "cancel", "(I)I"⟩, prog_12_method_42_code, 6, some Jvm.ClassFile.FieldType.int, [])
def m_Mo_nodes : MethodName × ByteArray × Nat × Option FieldType × List (Nat × Nat × Nat × Nat) := (⟨RMo, "nodes", "(I)I"⟩, prog_12_method_43_code, 3, some Jvm.ClassFile.FieldType.int, [])
def m_Mo_node : MethodName × ByteArray × Nat × Option FieldType × List (Nat × Nat × Nat × Nat) := (⟨RMo, "node", "(III)I"⟩, prog_12_method_44_code, 6, some Jvm.ClassFile.FieldType.int, [])
def m_Mo_use : MethodName × ByteArray × Nat × Option FieldType × List (Nat × Nat × Nat × Nat) := (⟨RMo, "use", "(I)I"⟩, prog_12_method_47_code, 5, some Jvm.ClassFile.FieldType.int, [])
def m_Mo_isOffcut : MethodName × ByteArray × Nat × Option FieldType × List (Nat × Nat × Nat × Nat) := (⟨RMo, "isOffcut", "(I)Z"⟩, prog_12_method_45_code, 2, some Jvm.ClassFile.FieldType.boolean, [])
def m_Mo_moveOffcut : MethodName × ByteArray × Nat × Option FieldType × List (Nat × Nat × Nat × Nat) := (⟨RMo, "moveOffcut", "(II)V"⟩, prog_12_method_46_code, 4, none, [])
def m_Mo_rack : MethodName × ByteArray × Nat × Option FieldType × List (Nat × Nat × Nat × Nat) := (⟨RMo, "rack", "(II)I"⟩, prog_12_method_48_code, 3, some Jvm.ClassFile.FieldType.int, [])
def m_Mo_fit : MethodName × ByteArray × Nat × Option FieldType × List (Nat × Nat × Nat × Nat) := (⟨RMo, "fit", "(II)I"⟩, prog_12_method_49_code, 7, some Jvm.ClassFile.FieldType.int, [])
def m_Mo_flawed : MethodName × ByteArray × Nat × Option FieldType × List (Nat × Nat × Nat × Nat) := (⟨RMo, "flawed", "(III)I"⟩, prog_12_method_50_code, 5, some Jvm.ClassFile.FieldType.int, [])
def m_Mo_panes : MethodName × ByteArray × Nat × Option FieldType × List (Nat × Nat × Nat × Nat) := (⟨RMo, "panes", "(II)I"⟩, prog_12_method_51_code, 3, some Jvm.ClassFile.FieldType.int, [])
def m_Mo_area : MethodName × ByteArray × Nat × Option FieldType × List (Nat × Nat × Nat × Nat) := (⟨RMo, "area", "(I)J"⟩, prog_12_method_52_code, 9, some Jvm.ClassFile.FieldType.long, [])
def m_Mo_total : MethodName × ByteArray × Nat × Option FieldType × List (Nat × Nat × Nat × Nat) := (⟨RMo, "total", "(I)I"⟩, prog_12_method_53_code, 4, some Jvm.ClassFile.FieldType.int, [])
def m_Lw_law : MethodName × ByteArray × Nat × Option FieldType × List (Nat × Nat × Nat × Nat) := (⟨RLw, "law", "([I)Z"⟩, code, 7, some Jvm.ClassFile.FieldType.boolean, [])
end
section
/-! the machine seen as a pure one: a heap as a function, a run as a predicate; both outcomes -/
abbrev xH : Type := Nat × Nat × (Nat → Option va_E)
abbrev xR : Type := Option Value ⊕ Addr
abbrev xM : Type := MethodName × ByteArray × Nat × Option FieldType × List (Nat × Nat × Nat × Nat)
abbrev xG : Type := Launch × va_G × List (ClassId × FieldType) × Nat × Nat × Nat × Nat × Cell
abbrev gL (G : xG) : Launch := G.1
abbrev gD (G : xG) : va_G := G.2.1
abbrev gT (G : xG) : List (ClassId × FieldType) := G.2.2.1
/-- the heap's size where the law begins: nothing below is written -/
abbrev gA (G : xG) : Nat := G.2.2.2.1
/-- the heap's size and the number of slots (since the law's begin) that are never passed -/
abbrev gC (G : xG) : Nat := G.2.2.2.2.1
abbrev gS (G : xG) : Nat := G.2.2.2.2.2.1
/-- the script: its address, its cell -/
abbrev gB (G : xG) : Nat := G.2.2.2.2.2.2.1
abbrev gX (G : xG) : Cell := G.2.2.2.2.2.2.2
def xRep (G : xG) (h : xH) (H : Heap) : Prop := H.size = h.1 ∧ h.1 ≤ gC G ∧ h.2.1 ≤ gS G ∧ gA G ≤ h.1 ∧ (gB G < gA G ∧ H[gB G]? = some (gX G)) ∧ ∀ (a : Nat) (e : va_E), h.2.2 a = some e → gA G ≤ a ∧ va_at (gD G) xcl (a, e) H
def xOut (r : xR) : Outcome := match r with
  | .inl v => .returned v
  | .inr a => .threw a
/-- the cells of statics stay -/
def xKeepS (H H' : Heap) : Prop := ∀ (a : Nat) (c : Cell), H[a]? = some c → c.vm.isStatics = true → H'[a]? = some c
def xEnd (G : xG) (s : State) (below : List Frame) (n0 : Nat) (Q : xR → xH → Prop) : State → Prop := fun t =>
  ∃ (r : xR) (h : xH) (L : List Loc), Q r h ∧ xRep G h t.heap ∧ xKeepS s.heap t.heap ∧ t.status = .running ∧ Ended t below (xOut r) ∧ s.WarmedH t.vm ∧
    s.sameButNew ({ t with vm := s.vm } : State) L (h.1 - s.heap.size) (h.2.1 - n0) ∧ (∀ q ∈ L, gA G ≤ q.base) ∧ s.heap.size ≤ h.1 ∧ n0 ≤ h.2.1
/-- the words of the tables; those that speak of cells of statics too -/
def xWd (s : State) : Prop := ∀ w ∈ xWS, w.before #[] s = true
def xSd (s : State) : Prop := ∀ w ∈ xSW, w.before #[] s = true
def xFix (G : xG) (M : xM) (d : Nat) (p : Program) (R : Room) (s : State) (m : MethodId) (meth : Method) (c : Code) (n0 : Nat) : Prop :=
  p.tables.exec = Jvm.exec ∧ c.code = M.2.1 ∧ c.maxLocals = M.2.2.1 ∧ meth.sig.returnType = M.2.2.2.1 ∧ meth.locks = false ∧
  c.exceptionTable.toList.map (fun h => (h.startPc, h.endPc, h.handlerPc, h.catchType)) = M.2.2.2.2 ∧
  s.methodNamed? M.1 = some m ∧ s.vm.method? m = some meth ∧ xWd s ∧ xSd s ∧ s.isArrayOf (gX G) .int ∧ va_K (gD G) xcl (gT G) s ∧ d + 16 ≤ R.frames ∧ 64 * d + 256 ≤ R.locals ∧
  gC G ≤ s.heap.size + R.cells ∧ gS G ≤ n0 + R.slots
def EX (G : xG) (M : xM) (d pc : Nat) (lv : List (Nat × Value)) (st : List Value) (h : xH) (Q : xR → xH → Prop) : Prop :=
  ∀ (p : Program) (e : Env) (R : Room) (s : State) (m : MethodId) (args : Array Value) (below : List Frame) (meth : Method) (c : Code) (n0 : Nat) (ls : Array Slot) (H : Heap) (locs : List Loc),
    xFix G M d p R s m meth c n0 → lv_has ls M.2.2.1 lv → xRep G h H → xKeepS s.heap H → (∀ q ∈ locs, gA G ≤ q.base) → s.heap.size ≤ h.1 → n0 ≤ h.2.1 →
    W p (gL G) e R s m args below meth c H locs (h.1 - s.heap.size) (h.2.1 - n0) (xEnd G s below n0 Q) (F0 m pc ls st)
/-! the locals: a list, in the order of their numbers -/
def lvG : List (Nat × Value) → Nat → Option Value
  | [], _ => none
  | (j, v) :: t, i => match Nat.beq j i with
    | true => some v
    | false => lvG t i
theorem lvG_mem : ∀ {lv : List (Nat × Value)} {i : Nat} {v : Value}, lvG lv i = some v → (i, v) ∈ lv
  | [], i, v, h => by cases h
  | (j, w) :: t, i, v, h => by
    unfold lvG at h
    split at h
    next hb =>
      cases h
      have e := Nat.eq_of_beq_eq_true hb
      subst e
      exact List.mem_cons_self
    next hb => exact List.mem_cons_of_mem _ (lvG_mem h)
theorem lvG_at {ls : Array Slot} {nL : Nat} {lv : List (Nat × Value)} (h : lv_has ls nL lv) {i : Nat} {v : Value} (hv : lvG lv i = some v) : ls[i]? = some (.val v) := h.2.2 (i, v) (lvG_mem hv)
def lvK1 (i : Nat) : List (Nat × Value) → List (Nat × Value)
  | [] => []
  | (j, w) :: t => match Nat.beq j i || (Nat.beq (j + 1) i && Nat.beq w.category 2) with
    | true => lvK1 i t
    | false => (j, w) :: lvK1 i t
def lvK2 (i : Nat) : List (Nat × Value) → List (Nat × Value)
  | [] => []
  | (j, w) :: t => match Nat.beq j i || (Nat.beq j (i + 1) || (Nat.beq (j + 1) i && Nat.beq w.category 2)) with
    | true => lvK2 i t
    | false => (j, w) :: lvK2 i t
def lvIns : List (Nat × Value) → Nat → Value → List (Nat × Value)
  | [], i, v => [(i, v)]
  | (j, w) :: t, i, v => match Nat.ble i j with
    | true => (i, v) :: (j, w) :: t
    | false => (j, w) :: lvIns t i v
theorem lvIns_sub : ∀ {lv : List (Nat × Value)} {i : Nat} {v : Value} {q : Nat × Value}, q ∈ lvIns lv i v → q = (i, v) ∨ q ∈ lv
  | [], i, v, q, h => by
    simp [lvIns] at h
    exact Or.inl h
  | (j, w) :: t, i, v, q, h => by
    unfold lvIns at h
    split at h
    next hb => exact List.mem_cons.mp h
    next hb =>
      rcases List.mem_cons.mp h with h | h
      · rw [h]; exact Or.inr List.mem_cons_self
      · rcases lvIns_sub h with h | h
        · exact Or.inl h
        · exact Or.inr (List.mem_cons_of_mem _ h)
theorem lvK1_sub : ∀ {lv : List (Nat × Value)} {i : Nat} {q : Nat × Value}, q ∈ lvK1 i lv → q ∈ lv.filter (fun q => !(q.1 == i) && !(q.1 + 1 == i && q.2.category == 2))
  | [], i, q, h => by cases h
  | (j, w) :: t, i, q, h => by
    unfold lvK1 at h
    split at h
    next hb =>
      have := lvK1_sub h
      rw [List.mem_filter] at this ⊢
      exact ⟨List.mem_cons_of_mem _ this.1, this.2⟩
    next hb =>
      rcases List.mem_cons.mp h with h | h
      · rw [List.mem_filter]
        subst h
        refine ⟨List.mem_cons_self, ?_⟩
        simp only [Nat.beq_eq, Bool.or_eq_false_iff, Bool.and_eq_false_iff] at hb
        simp only [Bool.and_eq_true, Bool.not_eq_true', beq_eq_false_iff_ne, Bool.and_eq_false_iff]
        obtain ⟨h1, h2⟩ := hb
        refine ⟨fun e => ?_, ?_⟩
        · rw [e] at h1; simp at h1
        · rcases h2 with h2 | h2
          · left; intro e; rw [e] at h2; simp at h2
          · right; intro e; rw [e] at h2; simp at h2
      · have := lvK1_sub h
        rw [List.mem_filter] at this ⊢
        exact ⟨List.mem_cons_of_mem _ this.1, this.2⟩
theorem lvK2_sub : ∀ {lv : List (Nat × Value)} {i : Nat} {q : Nat × Value}, q ∈ lvK2 i lv → q ∈ lv.filter (fun q => !(q.1 == i) && (!(q.1 == i + 1) && !(q.1 + 1 == i && q.2.category == 2)))
  | [], i, q, h => by cases h
  | (j, w) :: t, i, q, h => by
    unfold lvK2 at h
    split at h
    next hb =>
      have := lvK2_sub h
      rw [List.mem_filter] at this ⊢
      exact ⟨List.mem_cons_of_mem _ this.1, this.2⟩
    next hb =>
      rcases List.mem_cons.mp h with h | h
      · rw [List.mem_filter]
        subst h
        refine ⟨List.mem_cons_self, ?_⟩
        simp only [Nat.beq_eq, Bool.or_eq_false_iff, Bool.and_eq_false_iff] at hb
        simp only [Bool.and_eq_true, Bool.not_eq_true', beq_eq_false_iff_ne, Bool.and_eq_false_iff]
        obtain ⟨h1, h3, h2⟩ := hb
        refine ⟨fun e => ?_, fun e => ?_, ?_⟩
        · rw [e] at h1; simp at h1
        · rw [e] at h3; simp at h3
        · rcases h2 with h2 | h2
          · left; intro e; rw [e] at h2; simp at h2
          · right; intro e; rw [e] at h2; simp at h2
      · have := lvK2_sub h
        rw [List.mem_filter] at this ⊢
        exact ⟨List.mem_cons_of_mem _ this.1, this.2⟩
theorem lv_more {ls : Array Slot} {nL : Nat} {l l' : List (Nat × Value)} (h : lv_has ls nL l) (hs : ∀ q ∈ l', q ∈ l) : lv_has ls nL l' := ⟨h.1, h.2.1, fun q hq => h.2.2 q (hs q hq)⟩
theorem lv_has1 {ls : Array Slot} {nL i : Nat} {v : Value} {lv : List (Nat × Value)} (h : lv_has ls nL ((i, v) :: lv.filter (fun q => !(q.1 == i) && !(q.1 + 1 == i && q.2.category == 2)))) : lv_has ls nL (lvIns (lvK1 i lv) i v) :=
  lv_more h fun q hq => by
    rcases lvIns_sub hq with e | e
    · rw [e]; exact List.mem_cons_self
    · exact List.mem_cons_of_mem _ (lvK1_sub e)
theorem lv_has2 {ls : Array Slot} {nL i : Nat} {v : Value} {lv : List (Nat × Value)} (h : lv_has ls nL ((i, v) :: lv.filter (fun q => !(q.1 == i) && (!(q.1 == i + 1) && !(q.1 + 1 == i && q.2.category == 2))))) : lv_has ls nL (lvIns (lvK2 i lv) i v) :=
  lv_more h fun q hq => by
    rcases lvIns_sub hq with e | e
    · rw [e]; exact List.mem_cons_self
    · exact List.mem_cons_of_mem _ (lvK2_sub e)
/-- fewer locals -/
def lvSel (lv : List (Nat × Value)) : List Nat → List (Nat × Value)
  | [] => []
  | i :: t => match lvG lv i with
    | some v => (i, v) :: lvSel lv t
    | none => lvSel lv t
theorem lvSel_sub : ∀ {lv : List (Nat × Value)} {is : List Nat} {q : Nat × Value}, q ∈ lvSel lv is → q ∈ lv
  | lv, [], q, h => by cases h
  | lv, i :: t, q, h => by
    unfold lvSel at h
    split at h
    next v hv =>
      rcases List.mem_cons.mp h with h | h
      · rw [h]; exact lvG_mem hv
      · exact lvSel_sub h
    next => exact lvSel_sub h
end
section
section XR
variable {G : xG} {M : xM} {d pc : Nat} {lv : List (Nat × Value)} {st : List Value} {h : xH} {Q Q' : xR → xH → Prop}
theorem x_iconst {n : Int} {v : Int32} (hd : decode M.2.1 pc = .ok (.iconst n, 1)) (hv : Int32.ofInt n = v) (k : EX G M d (pc + 1) lv (.int v :: st) h Q) : EX G M d pc lv st h Q :=
  fun p e R s m args below meth c n0 ls H locs hF hl hr hz ho h1 h2 => lv_iconst hF.1 hF.2.1 hd hv (k p e R s m args below meth c n0 ls H locs hF hl hr hz ho h1 h2)
theorem x_bipush {n : Int} {v : Int32} (hd : decode M.2.1 pc = .ok (.bipush n, 2)) (hv : (Int8.ofInt n).toInt32 = v) (k : EX G M d (pc + 2) lv (.int v :: st) h Q) : EX G M d pc lv st h Q :=
  fun p e R s m args below meth c n0 ls H locs hF hl hr hz ho h1 h2 => lv_bipush hF.1 hF.2.1 hd hv (k p e R s m args below meth c n0 ls H locs hF hl hr hz ho h1 h2)
theorem x_sipush {n : Int} {v : Int32} (hd : decode M.2.1 pc = .ok (.sipush n, 3)) (hv : (Int16.ofInt n).toInt32 = v) (k : EX G M d (pc + 3) lv (.int v :: st) h Q) : EX G M d pc lv st h Q :=
  fun p e R s m args below meth c n0 ls H locs hF hl hr hz ho h1 h2 => lv_sipush hF.1 hF.2.1 hd hv (k p e R s m args below meth c n0 ls H locs hF hl hr hz ho h1 h2)
theorem x_lconst {n : Fin 2} {v : Int64} (hd : decode M.2.1 pc = .ok (.lconst n, 1)) (hv : Int64.ofNat (n : Nat) = v) (k : EX G M d (pc + 1) lv (.long v :: st) h Q) : EX G M d pc lv st h Q :=
  fun p e R s m args below meth c n0 ls H locs hF hl hr hz ho h1 h2 => lv_lconst hF.1 hF.2.1 hd hv (k p e R s m args below meth c n0 ls H locs hF hl hr hz ho h1 h2)
theorem x_null  (hd : decode M.2.1 pc = .ok (.aconst_null, 1))  (k : EX G M d (pc + 1) lv (.null :: st) h Q) : EX G M d pc lv st h Q :=
  fun p e R s m args below meth c n0 ls H locs hF hl hr hz ho h1 h2 => lv_null hF.1 hF.2.1 hd (k p e R s m args below meth c n0 ls H locs hF hl hr hz ho h1 h2)
theorem x_iload_n {k0 : Fin 4} {x : Int32} (hd : decode M.2.1 pc = .ok (.iload_n k0, 1)) (hv : lvG lv k0 = some (.int x)) (k : EX G M d (pc + 1) lv (.int x :: st) h Q) : EX G M d pc lv st h Q :=
  fun p e R s m args below meth c n0 ls H locs hF hl hr hz ho h1 h2 => lv_iload_n hF.1 hF.2.1 hd rfl (lvG_at hl hv) (k p e R s m args below meth c n0 ls H locs hF hl hr hz ho h1 h2)
theorem x_iload {i : Nat} {x : Int32} (hd : decode M.2.1 pc = .ok (.iload i, 2)) (hv : lvG lv i = some (.int x)) (k : EX G M d (pc + 2) lv (.int x :: st) h Q) : EX G M d pc lv st h Q :=
  fun p e R s m args below meth c n0 ls H locs hF hl hr hz ho h1 h2 => lv_iload hF.1 hF.2.1 hd (lvG_at hl hv) (k p e R s m args below meth c n0 ls H locs hF hl hr hz ho h1 h2)
theorem x_istore_n {k0 : Fin 4} {x : Int32} (hd : decode M.2.1 pc = .ok (.istore_n k0, 1)) (hn : (k0 : Nat) < M.2.2.1) (k : EX G M d (pc + 1) (lvIns (lvK1 k0 lv) k0 (.int x)) st h Q) : EX G M d pc lv (.int x :: st) h Q :=
  fun p e R s m args below meth c n0 ls H locs hF hl hr hz ho h1 h2 => lv_istore_n hF.1 hF.2.1 hd rfl hl hn rfl fun ls' hl' => k p e R s m args below meth c n0 ls' H locs hF (lv_has1 hl') hr hz ho h1 h2
theorem x_istore {i : Nat} {x : Int32} (hd : decode M.2.1 pc = .ok (.istore i, 2)) (hn : i < M.2.2.1) (k : EX G M d (pc + 2) (lvIns (lvK1 i lv) i (.int x)) st h Q) : EX G M d pc lv (.int x :: st) h Q :=
  fun p e R s m args below meth c n0 ls H locs hF hl hr hz ho h1 h2 => lv_istore hF.1 hF.2.1 hd hl hn rfl fun ls' hl' => k p e R s m args below meth c n0 ls' H locs hF (lv_has1 hl') hr hz ho h1 h2
theorem x_lload_n {k0 : Fin 4} {x : Int64} (hd : decode M.2.1 pc = .ok (.lload_n k0, 1)) (hv : lvG lv k0 = some (.long x)) (k : EX G M d (pc + 1) lv (.long x :: st) h Q) : EX G M d pc lv st h Q :=
  fun p e R s m args below meth c n0 ls H locs hF hl hr hz ho h1 h2 => lv_lload_n hF.1 hF.2.1 hd rfl (lvG_at hl hv) (k p e R s m args below meth c n0 ls H locs hF hl hr hz ho h1 h2)
theorem x_lload {i : Nat} {x : Int64} (hd : decode M.2.1 pc = .ok (.lload i, 2)) (hv : lvG lv i = some (.long x)) (k : EX G M d (pc + 2) lv (.long x :: st) h Q) : EX G M d pc lv st h Q :=
  fun p e R s m args below meth c n0 ls H locs hF hl hr hz ho h1 h2 => lv_lload hF.1 hF.2.1 hd (lvG_at hl hv) (k p e R s m args below meth c n0 ls H locs hF hl hr hz ho h1 h2)
theorem x_lstore_n {k0 : Fin 4} {x : Int64} (hd : decode M.2.1 pc = .ok (.lstore_n k0, 1)) (hn : (k0 : Nat) + 1 < M.2.2.1) (k : EX G M d (pc + 1) (lvIns (lvK2 k0 lv) k0 (.long x)) st h Q) : EX G M d pc lv (.long x :: st) h Q :=
  fun p e R s m args below meth c n0 ls H locs hF hl hr hz ho h1 h2 => lv_lstore_n hF.1 hF.2.1 hd rfl hl hn rfl fun ls' hl' => k p e R s m args below meth c n0 ls' H locs hF (lv_has2 hl') hr hz ho h1 h2
theorem x_lstore {i : Nat} {x : Int64} (hd : decode M.2.1 pc = .ok (.lstore i, 2)) (hn : i + 1 < M.2.2.1) (k : EX G M d (pc + 2) (lvIns (lvK2 i lv) i (.long x)) st h Q) : EX G M d pc lv (.long x :: st) h Q :=
  fun p e R s m args below meth c n0 ls H locs hF hl hr hz ho h1 h2 => lv_lstore hF.1 hF.2.1 hd hl hn rfl fun ls' hl' => k p e R s m args below meth c n0 ls' H locs hF (lv_has2 hl') hr hz ho h1 h2
theorem x_aload_n {k0 : Fin 4} {a : Nat} (hd : decode M.2.1 pc = .ok (.aload_n k0, 1)) (hv : lvG lv k0 = some (.ref a)) (k : EX G M d (pc + 1) lv (.ref a :: st) h Q) : EX G M d pc lv st h Q :=
  fun p e R s m args below meth c n0 ls H locs hF hl hr hz ho h1 h2 => lv_aload_n hF.1 hF.2.1 hd rfl (lvG_at hl hv) (k p e R s m args below meth c n0 ls H locs hF hl hr hz ho h1 h2)
theorem x_aload {i : Nat} {a : Nat} (hd : decode M.2.1 pc = .ok (.aload i, 2)) (hv : lvG lv i = some (.ref a)) (k : EX G M d (pc + 2) lv (.ref a :: st) h Q) : EX G M d pc lv st h Q :=
  fun p e R s m args below meth c n0 ls H locs hF hl hr hz ho h1 h2 => lv_aload hF.1 hF.2.1 hd (lvG_at hl hv) (k p e R s m args below meth c n0 ls H locs hF hl hr hz ho h1 h2)
theorem x_astore_n {k0 : Fin 4} {a : Nat} (hd : decode M.2.1 pc = .ok (.astore_n k0, 1)) (hn : (k0 : Nat) < M.2.2.1) (k : EX G M d (pc + 1) (lvIns (lvK1 k0 lv) k0 (.ref a)) st h Q) : EX G M d pc lv (.ref a :: st) h Q :=
  fun p e R s m args below meth c n0 ls H locs hF hl hr hz ho h1 h2 => lv_astore_n hF.1 hF.2.1 hd rfl hl hn rfl fun ls' hl' => k p e R s m args below meth c n0 ls' H locs hF (lv_has1 hl') hr hz ho h1 h2
theorem x_astore {i : Nat} {a : Nat} (hd : decode M.2.1 pc = .ok (.astore i, 2)) (hn : i < M.2.2.1) (k : EX G M d (pc + 2) (lvIns (lvK1 i lv) i (.ref a)) st h Q) : EX G M d pc lv (.ref a :: st) h Q :=
  fun p e R s m args below meth c n0 ls H locs hF hl hr hz ho h1 h2 => lv_astore hF.1 hF.2.1 hd hl hn rfl fun ls' hl' => k p e R s m args below meth c n0 ls' H locs hF (lv_has1 hl') hr hz ho h1 h2
theorem x_aload_nN {k0 : Fin 4}  (hd : decode M.2.1 pc = .ok (.aload_n k0, 1)) (hv : lvG lv k0 = some (.null)) (k : EX G M d (pc + 1) lv (.null :: st) h Q) : EX G M d pc lv st h Q :=
  fun p e R s m args below meth c n0 ls H locs hF hl hr hz ho h1 h2 => lv_aload_nN hF.1 hF.2.1 hd rfl (lvG_at hl hv) (k p e R s m args below meth c n0 ls H locs hF hl hr hz ho h1 h2)
theorem x_aloadN {i : Nat}  (hd : decode M.2.1 pc = .ok (.aload i, 2)) (hv : lvG lv i = some (.null)) (k : EX G M d (pc + 2) lv (.null :: st) h Q) : EX G M d pc lv st h Q :=
  fun p e R s m args below meth c n0 ls H locs hF hl hr hz ho h1 h2 => lv_aloadN hF.1 hF.2.1 hd (lvG_at hl hv) (k p e R s m args below meth c n0 ls H locs hF hl hr hz ho h1 h2)
theorem x_astore_nN {k0 : Fin 4}  (hd : decode M.2.1 pc = .ok (.astore_n k0, 1)) (hn : (k0 : Nat) < M.2.2.1) (k : EX G M d (pc + 1) (lvIns (lvK1 k0 lv) k0 (.null)) st h Q) : EX G M d pc lv (.null :: st) h Q :=
  fun p e R s m args below meth c n0 ls H locs hF hl hr hz ho h1 h2 => lv_astore_nN hF.1 hF.2.1 hd rfl hl hn rfl fun ls' hl' => k p e R s m args below meth c n0 ls' H locs hF (lv_has1 hl') hr hz ho h1 h2
theorem x_astoreN {i : Nat}  (hd : decode M.2.1 pc = .ok (.astore i, 2)) (hn : i < M.2.2.1) (k : EX G M d (pc + 2) (lvIns (lvK1 i lv) i (.null)) st h Q) : EX G M d pc lv (.null :: st) h Q :=
  fun p e R s m args below meth c n0 ls H locs hF hl hr hz ho h1 h2 => lv_astoreN hF.1 hF.2.1 hd hl hn rfl fun ls' hl' => k p e R s m args below meth c n0 ls' H locs hF (lv_has1 hl') hr hz ho h1 h2
theorem x_iinc {i : Nat} {n : Int} {x v : Int32} (hd : decode M.2.1 pc = .ok (.iinc i n, 3)) (hv : lvG lv i = some (.int x)) (hx : x + Int32.ofInt n = v) (hn : i < M.2.2.1) (k : EX G M d (pc + 3) (lvIns (lvK1 i lv) i (.int v)) st h Q) : EX G M d pc lv st h Q := by
  intro p e R s m args below meth c n0 ls H locs hF hl hr hz ho h1 h2
  have hg := lvG_at hl hv
  obtain ⟨ls', e', h'⟩ := lv_store1 (v := .int v) hl hn rfl
  intro T hT X
  obtain ⟨t, a, b⟩ := k p e R s m args below meth c n0 ls' H locs hF (lv_has1 h') hr hz ho h1 h2 T hT X
  refine ⟨t, ?_, b⟩
  subst hx
  jvm_step X.here [X.here.top, ↓top_set X.here.top, hF.1, hF.2.1, hd, hg, e']
  exact a
theorem x_iadd {x y : Int32} (hd : decode M.2.1 pc = .ok (.iadd, 1))  (k : EX G M d (pc + 1) lv (.int (x + y) :: st) h Q) : EX G M d pc lv (.int y :: .int x :: st) h Q :=
  fun p e R s m args below meth c n0 ls H locs hF hl hr hz ho h1 h2 => lv_iadd hF.1 hF.2.1 hd (k p e R s m args below meth c n0 ls H locs hF hl hr hz ho h1 h2)
theorem x_isub {x y : Int32} (hd : decode M.2.1 pc = .ok (.isub, 1))  (k : EX G M d (pc + 1) lv (.int (x - y) :: st) h Q) : EX G M d pc lv (.int y :: .int x :: st) h Q :=
  fun p e R s m args below meth c n0 ls H locs hF hl hr hz ho h1 h2 => lv_isub hF.1 hF.2.1 hd (k p e R s m args below meth c n0 ls H locs hF hl hr hz ho h1 h2)
theorem x_imul {x y : Int32} (hd : decode M.2.1 pc = .ok (.imul, 1))  (k : EX G M d (pc + 1) lv (.int (x * y) :: st) h Q) : EX G M d pc lv (.int y :: .int x :: st) h Q :=
  fun p e R s m args below meth c n0 ls H locs hF hl hr hz ho h1 h2 => lv_imul hF.1 hF.2.1 hd (k p e R s m args below meth c n0 ls H locs hF hl hr hz ho h1 h2)
theorem x_iand {x y : Int32} (hd : decode M.2.1 pc = .ok (.iand, 1))  (k : EX G M d (pc + 1) lv (.int (x &&& y) :: st) h Q) : EX G M d pc lv (.int y :: .int x :: st) h Q :=
  fun p e R s m args below meth c n0 ls H locs hF hl hr hz ho h1 h2 => lv_iand hF.1 hF.2.1 hd (k p e R s m args below meth c n0 ls H locs hF hl hr hz ho h1 h2)
theorem x_idiv {x y : Int32} (hd : decode M.2.1 pc = .ok (.idiv, 1)) (hne : ¬ y = 0) (k : EX G M d (pc + 1) lv (.int (x / y) :: st) h Q) : EX G M d pc lv (.int y :: .int x :: st) h Q :=
  fun p e R s m args below meth c n0 ls H locs hF hl hr hz ho h1 h2 => lv_idiv hF.1 hF.2.1 hd hne (k p e R s m args below meth c n0 ls H locs hF hl hr hz ho h1 h2)
theorem x_irem {x y : Int32} (hd : decode M.2.1 pc = .ok (.irem, 1)) (hne : ¬ y = 0) (k : EX G M d (pc + 1) lv (.int (x - (x / y) * y) :: st) h Q) : EX G M d pc lv (.int y :: .int x :: st) h Q :=
  fun p e R s m args below meth c n0 ls H locs hF hl hr hz ho h1 h2 => lv_irem hF.1 hF.2.1 hd hne (k p e R s m args below meth c n0 ls H locs hF hl hr hz ho h1 h2)
theorem x_ladd {x y : Int64} (hd : decode M.2.1 pc = .ok (.ladd, 1))  (k : EX G M d (pc + 1) lv (.long (x + y) :: st) h Q) : EX G M d pc lv (.long y :: .long x :: st) h Q :=
  fun p e R s m args below meth c n0 ls H locs hF hl hr hz ho h1 h2 => lv_ladd hF.1 hF.2.1 hd (k p e R s m args below meth c n0 ls H locs hF hl hr hz ho h1 h2)
theorem x_lsub {x y : Int64} (hd : decode M.2.1 pc = .ok (.lsub, 1))  (k : EX G M d (pc + 1) lv (.long (x - y) :: st) h Q) : EX G M d pc lv (.long y :: .long x :: st) h Q :=
  fun p e R s m args below meth c n0 ls H locs hF hl hr hz ho h1 h2 => lv_lsub hF.1 hF.2.1 hd (k p e R s m args below meth c n0 ls H locs hF hl hr hz ho h1 h2)
theorem x_lmul {x y : Int64} (hd : decode M.2.1 pc = .ok (.lmul, 1))  (k : EX G M d (pc + 1) lv (.long (x * y) :: st) h Q) : EX G M d pc lv (.long y :: .long x :: st) h Q :=
  fun p e R s m args below meth c n0 ls H locs hF hl hr hz ho h1 h2 => lv_lmul hF.1 hF.2.1 hd (k p e R s m args below meth c n0 ls H locs hF hl hr hz ho h1 h2)
theorem x_i2l {x : Int32} (hd : decode M.2.1 pc = .ok (.i2l, 1))  (k : EX G M d (pc + 1) lv (.long x.toInt64 :: st) h Q) : EX G M d pc lv (.int x :: st) h Q :=
  fun p e R s m args below meth c n0 ls H locs hF hl hr hz ho h1 h2 => lv_i2l hF.1 hF.2.1 hd rfl (k p e R s m args below meth c n0 ls H locs hF hl hr hz ho h1 h2)
theorem x_lcmp {x y : Int64} (hd : decode M.2.1 pc = .ok (.lcmp, 1))  (k : EX G M d (pc + 1) lv (.int (lg_cmp x y) :: st) h Q) : EX G M d pc lv (.long y :: .long x :: st) h Q :=
  fun p e R s m args below meth c n0 ls H locs hF hl hr hz ho h1 h2 => W.lcmp hF.1 hF.2.1 hd (k p e R s m args below meth c n0 ls H locs hF hl hr hz ho h1 h2)
theorem x_dup {a : Value} (hd : decode M.2.1 pc = .ok (.dup, 1)) (ha : a.category = 1) (k : EX G M d (pc + 1) lv (a :: a :: st) h Q) : EX G M d pc lv (a :: st) h Q :=
  fun p e R s m args below meth c n0 ls H locs hF hl hr hz ho h1 h2 => lv_dup hF.1 hF.2.1 hd ha (k p e R s m args below meth c n0 ls H locs hF hl hr hz ho h1 h2)
theorem x_pop {a : Value} (hd : decode M.2.1 pc = .ok (.pop, 1)) (ha : a.category = 1) (k : EX G M d (pc + 1) lv st h Q) : EX G M d pc lv (a :: st) h Q :=
  fun p e R s m args below meth c n0 ls H locs hF hl hr hz ho h1 h2 => lv_pop hF.1 hF.2.1 hd ha (k p e R s m args below meth c n0 ls H locs hF hl hr hz ho h1 h2)
theorem x_dup_x1 {a b : Value} (hd : decode M.2.1 pc = .ok (.dup_x1, 1)) (ha : a.category = 1) (hb : b.category = 1) (k : EX G M d (pc + 1) lv (a :: b :: a :: st) h Q) : EX G M d pc lv (a :: b :: st) h Q :=
  fun p e R s m args below meth c n0 ls H locs hF hl hr hz ho h1 h2 => lv_dup_x1 hF.1 hF.2.1 hd ha hb (k p e R s m args below meth c n0 ls H locs hF hl hr hz ho h1 h2)
theorem x_dup2 {a b : Value} (hd : decode M.2.1 pc = .ok (.dup2, 1)) (ha : a.category = 1) (hb : b.category = 1) (k : EX G M d (pc + 1) lv (a :: b :: a :: b :: st) h Q) : EX G M d pc lv (a :: b :: st) h Q :=
  fun p e R s m args below meth c n0 ls H locs hF hl hr hz ho h1 h2 => lv_dup2_11 hF.1 hF.2.1 hd ha hb (k p e R s m args below meth c n0 ls H locs hF hl hr hz ho h1 h2)
theorem x_if_eq {x : Int32} {off : Int} (tgt : Nat) (hd : decode M.2.1 pc = .ok (.ifCond .eq off, 3)) (ht : (pc : Int) + off = (tgt : Int)) (kt : x = 0 → EX G M d tgt lv st h Q) (kf : ¬ (x = 0) → EX G M d (pc + 3) lv st h Q) : EX G M d pc lv (.int x :: st) h Q :=
  fun p e R s m args below meth c n0 ls H locs hF hl hr hz ho h1 h2 => lv_if_eq hF.1 hF.2.1 hd ht (fun q => kt q p e R s m args below meth c n0 ls H locs hF hl hr hz ho h1 h2) (fun q => kf q p e R s m args below meth c n0 ls H locs hF hl hr hz ho h1 h2)
theorem x_icmp_eq {x y : Int32} {off : Int} (tgt : Nat) (hd : decode M.2.1 pc = .ok (.if_icmp .eq off, 3)) (ht : (pc : Int) + off = (tgt : Int)) (kt : x = y → EX G M d tgt lv st h Q) (kf : ¬ (x = y) → EX G M d (pc + 3) lv st h Q) : EX G M d pc lv (.int y :: .int x :: st) h Q :=
  fun p e R s m args below meth c n0 ls H locs hF hl hr hz ho h1 h2 => lv_icmp_eq hF.1 hF.2.1 hd ht (fun q => kt q p e R s m args below meth c n0 ls H locs hF hl hr hz ho h1 h2) (fun q => kf q p e R s m args below meth c n0 ls H locs hF hl hr hz ho h1 h2)
theorem x_if_ne {x : Int32} {off : Int} (tgt : Nat) (hd : decode M.2.1 pc = .ok (.ifCond .ne off, 3)) (ht : (pc : Int) + off = (tgt : Int)) (kt : ¬ x = 0 → EX G M d tgt lv st h Q) (kf : x = 0 → EX G M d (pc + 3) lv st h Q) : EX G M d pc lv (.int x :: st) h Q :=
  fun p e R s m args below meth c n0 ls H locs hF hl hr hz ho h1 h2 => lv_if_ne hF.1 hF.2.1 hd ht (fun q => kt q p e R s m args below meth c n0 ls H locs hF hl hr hz ho h1 h2) (fun q => kf q p e R s m args below meth c n0 ls H locs hF hl hr hz ho h1 h2)
theorem x_icmp_ne {x y : Int32} {off : Int} (tgt : Nat) (hd : decode M.2.1 pc = .ok (.if_icmp .ne off, 3)) (ht : (pc : Int) + off = (tgt : Int)) (kt : ¬ x = y → EX G M d tgt lv st h Q) (kf : x = y → EX G M d (pc + 3) lv st h Q) : EX G M d pc lv (.int y :: .int x :: st) h Q :=
  fun p e R s m args below meth c n0 ls H locs hF hl hr hz ho h1 h2 => lv_icmp_ne hF.1 hF.2.1 hd ht (fun q => kt q p e R s m args below meth c n0 ls H locs hF hl hr hz ho h1 h2) (fun q => kf q p e R s m args below meth c n0 ls H locs hF hl hr hz ho h1 h2)
theorem x_if_lt {x : Int32} {off : Int} (tgt : Nat) (hd : decode M.2.1 pc = .ok (.ifCond .lt off, 3)) (ht : (pc : Int) + off = (tgt : Int)) (kt : x < 0 → EX G M d tgt lv st h Q) (kf : ¬ (x < 0) → EX G M d (pc + 3) lv st h Q) : EX G M d pc lv (.int x :: st) h Q :=
  fun p e R s m args below meth c n0 ls H locs hF hl hr hz ho h1 h2 => lv_if_lt hF.1 hF.2.1 hd ht (fun q => kt q p e R s m args below meth c n0 ls H locs hF hl hr hz ho h1 h2) (fun q => kf q p e R s m args below meth c n0 ls H locs hF hl hr hz ho h1 h2)
theorem x_icmp_lt {x y : Int32} {off : Int} (tgt : Nat) (hd : decode M.2.1 pc = .ok (.if_icmp .lt off, 3)) (ht : (pc : Int) + off = (tgt : Int)) (kt : x < y → EX G M d tgt lv st h Q) (kf : ¬ (x < y) → EX G M d (pc + 3) lv st h Q) : EX G M d pc lv (.int y :: .int x :: st) h Q :=
  fun p e R s m args below meth c n0 ls H locs hF hl hr hz ho h1 h2 => lv_icmp_lt hF.1 hF.2.1 hd ht (fun q => kt q p e R s m args below meth c n0 ls H locs hF hl hr hz ho h1 h2) (fun q => kf q p e R s m args below meth c n0 ls H locs hF hl hr hz ho h1 h2)
theorem x_if_ge {x : Int32} {off : Int} (tgt : Nat) (hd : decode M.2.1 pc = .ok (.ifCond .ge off, 3)) (ht : (pc : Int) + off = (tgt : Int)) (kt : 0 ≤ x → EX G M d tgt lv st h Q) (kf : ¬ (0 ≤ x) → EX G M d (pc + 3) lv st h Q) : EX G M d pc lv (.int x :: st) h Q :=
  fun p e R s m args below meth c n0 ls H locs hF hl hr hz ho h1 h2 => lv_if_ge hF.1 hF.2.1 hd ht (fun q => kt q p e R s m args below meth c n0 ls H locs hF hl hr hz ho h1 h2) (fun q => kf q p e R s m args below meth c n0 ls H locs hF hl hr hz ho h1 h2)
theorem x_icmp_ge {x y : Int32} {off : Int} (tgt : Nat) (hd : decode M.2.1 pc = .ok (.if_icmp .ge off, 3)) (ht : (pc : Int) + off = (tgt : Int)) (kt : y ≤ x → EX G M d tgt lv st h Q) (kf : ¬ (y ≤ x) → EX G M d (pc + 3) lv st h Q) : EX G M d pc lv (.int y :: .int x :: st) h Q :=
  fun p e R s m args below meth c n0 ls H locs hF hl hr hz ho h1 h2 => lv_icmp_ge hF.1 hF.2.1 hd ht (fun q => kt q p e R s m args below meth c n0 ls H locs hF hl hr hz ho h1 h2) (fun q => kf q p e R s m args below meth c n0 ls H locs hF hl hr hz ho h1 h2)
theorem x_if_gt {x : Int32} {off : Int} (tgt : Nat) (hd : decode M.2.1 pc = .ok (.ifCond .gt off, 3)) (ht : (pc : Int) + off = (tgt : Int)) (kt : 0 < x → EX G M d tgt lv st h Q) (kf : ¬ (0 < x) → EX G M d (pc + 3) lv st h Q) : EX G M d pc lv (.int x :: st) h Q :=
  fun p e R s m args below meth c n0 ls H locs hF hl hr hz ho h1 h2 => lv_if_gt hF.1 hF.2.1 hd ht (fun q => kt q p e R s m args below meth c n0 ls H locs hF hl hr hz ho h1 h2) (fun q => kf q p e R s m args below meth c n0 ls H locs hF hl hr hz ho h1 h2)
theorem x_icmp_gt {x y : Int32} {off : Int} (tgt : Nat) (hd : decode M.2.1 pc = .ok (.if_icmp .gt off, 3)) (ht : (pc : Int) + off = (tgt : Int)) (kt : y < x → EX G M d tgt lv st h Q) (kf : ¬ (y < x) → EX G M d (pc + 3) lv st h Q) : EX G M d pc lv (.int y :: .int x :: st) h Q :=
  fun p e R s m args below meth c n0 ls H locs hF hl hr hz ho h1 h2 => lv_icmp_gt hF.1 hF.2.1 hd ht (fun q => kt q p e R s m args below meth c n0 ls H locs hF hl hr hz ho h1 h2) (fun q => kf q p e R s m args below meth c n0 ls H locs hF hl hr hz ho h1 h2)
theorem x_if_le {x : Int32} {off : Int} (tgt : Nat) (hd : decode M.2.1 pc = .ok (.ifCond .le off, 3)) (ht : (pc : Int) + off = (tgt : Int)) (kt : x ≤ 0 → EX G M d tgt lv st h Q) (kf : ¬ (x ≤ 0) → EX G M d (pc + 3) lv st h Q) : EX G M d pc lv (.int x :: st) h Q :=
  fun p e R s m args below meth c n0 ls H locs hF hl hr hz ho h1 h2 => lv_if_le hF.1 hF.2.1 hd ht (fun q => kt q p e R s m args below meth c n0 ls H locs hF hl hr hz ho h1 h2) (fun q => kf q p e R s m args below meth c n0 ls H locs hF hl hr hz ho h1 h2)
theorem x_icmp_le {x y : Int32} {off : Int} (tgt : Nat) (hd : decode M.2.1 pc = .ok (.if_icmp .le off, 3)) (ht : (pc : Int) + off = (tgt : Int)) (kt : x ≤ y → EX G M d tgt lv st h Q) (kf : ¬ (x ≤ y) → EX G M d (pc + 3) lv st h Q) : EX G M d pc lv (.int y :: .int x :: st) h Q :=
  fun p e R s m args below meth c n0 ls H locs hF hl hr hz ho h1 h2 => lv_icmp_le hF.1 hF.2.1 hd ht (fun q => kt q p e R s m args below meth c n0 ls H locs hF hl hr hz ho h1 h2) (fun q => kf q p e R s m args below meth c n0 ls H locs hF hl hr hz ho h1 h2)
theorem x_goto {off : Int} (tgt : Nat) (hd : decode M.2.1 pc = .ok (.goto off, 3)) (ht : (pc : Int) + off = (tgt : Int)) (k : EX G M d tgt lv st h Q) : EX G M d pc lv st h Q :=
  fun p e R s m args below meth c n0 ls H locs hF hl hr hz ho h1 h2 => lv_goto hF.1 hF.2.1 hd ht (k p e R s m args below meth c n0 ls H locs hF hl hr hz ho h1 h2)
theorem x_ifnonnull {a : Nat} {off : Int} (tgt : Nat) (hd : decode M.2.1 pc = .ok (.ifnonnull off, 3)) (ht : (pc : Int) + off = (tgt : Int)) (k : EX G M d tgt lv st h Q) : EX G M d pc lv (.ref a :: st) h Q :=
  fun p e R s m args below meth c n0 ls H locs hF hl hr hz ho h1 h2 => lv_ifnonnull hF.1 hF.2.1 hd ht (k p e R s m args below meth c n0 ls H locs hF hl hr hz ho h1 h2)
theorem x_ifnonnullN {off : Int} (hd : decode M.2.1 pc = .ok (.ifnonnull off, 3)) (k : EX G M d (pc + 3) lv st h Q) : EX G M d pc lv (.null :: st) h Q :=
  fun p e R s m args below meth c n0 ls H locs hF hl hr hz ho h1 h2 => lv_ifnonnullN hF.1 hF.2.1 hd (k p e R s m args below meth c n0 ls H locs hF hl hr hz ho h1 h2)
theorem x_ifnull {a : Nat} {off : Int} (hd : decode M.2.1 pc = .ok (.ifnull off, 3)) (k : EX G M d (pc + 3) lv st h Q) : EX G M d pc lv (.ref a :: st) h Q :=
  fun p e R s m args below meth c n0 ls H locs hF hl hr hz ho h1 h2 => lv_ifnull hF.1 hF.2.1 hd (k p e R s m args below meth c n0 ls H locs hF hl hr hz ho h1 h2)
theorem x_ifnullN {off : Int} (tgt : Nat) (hd : decode M.2.1 pc = .ok (.ifnull off, 3)) (ht : (pc : Int) + off = (tgt : Int)) (k : EX G M d tgt lv st h Q) : EX G M d pc lv (.null :: st) h Q :=
  fun p e R s m args below meth c n0 ls H locs hF hl hr hz ho h1 h2 => lv_ifnullN hF.1 hF.2.1 hd ht (k p e R s m args below meth c n0 ls H locs hF hl hr hz ho h1 h2)
theorem x_tableOut {dflt lo hi : Int} {offs : Array Int} {len : Nat} {x : Int32} (tgt : Nat) (hd : decode M.2.1 pc = .ok (.tableswitch dflt lo hi offs, len)) (hx : x.toInt < lo ∨ hi < x.toInt) (ht : (pc : Int) + dflt = (tgt : Int)) (k : EX G M d tgt lv st h Q) : EX G M d pc lv (.int x :: st) h Q :=
  fun p e R s m args below meth c n0 ls H locs hF hl hr hz ho h1 h2 => lv_tableOut hF.1 hF.2.1 hd hx ht (k p e R s m args below meth c n0 ls H locs hF hl hr hz ho h1 h2)
theorem x_tableIn {dflt lo hi off : Int} {offs : Array Int} {len : Nat} {x : Int32} (tgt : Nat) (hd : decode M.2.1 pc = .ok (.tableswitch dflt lo hi offs, len)) (hx1 : ¬ x.toInt < lo) (hx2 : ¬ hi < x.toInt) (hx : offs[(x.toInt - lo).toNat]? = some off) (ht : (pc : Int) + off = (tgt : Int)) (k : EX G M d tgt lv st h Q) : EX G M d pc lv (.int x :: st) h Q :=
  fun p e R s m args below meth c n0 ls H locs hF hl hr hz ho h1 h2 => lv_tableIn hF.1 hF.2.1 hd hx1 hx2 hx ht (k p e R s m args below meth c n0 ls H locs hF hl hr hz ho h1 h2)
theorem x_post (hq : ∀ r h', Q r h' → Q' r h') (k : EX G M d pc lv st h Q) : EX G M d pc lv st h Q' := by
  intro p e R s m args below meth c n0 ls H locs hF hl hr hz ho h1 h2 T hT X
  obtain ⟨t, a, r, h', L, b, b2⟩ := k p e R s m args below meth c n0 ls H locs hF hl hr hz ho h1 h2 T hT X
  exact ⟨t, a, r, h', L, hq r h' b, b2⟩
theorem x_lv (is : List Nat) {lv' : List (Nat × Value)} (he : lvSel lv is = lv') (k : EX G M d pc lv' st h Q) : EX G M d pc lv st h Q := by
  subst he
  exact fun p e R s m args below meth c n0 ls H locs hF hl hr hz ho h1 h2 => k p e R s m args below meth c n0 ls H locs hF (lv_more hl fun q hq => lvSel_sub hq) hr hz ho h1 h2
theorem x_deep {d' : Nat} (hd : d ≤ d') (k : EX G M d pc lv st h Q) : EX G M d' pc lv st h Q := by
  intro p e R s m args below meth c n0 ls H locs hF hl hr hz ho h1 h2
  obtain ⟨f1, f2, f3, f4, f5, f6, f7, f8, f9, f10, f11, f12, f13, f14, f15⟩ := hF
  exact k p e R s m args below meth c n0 ls H locs ⟨f1, f2, f3, f4, f5, f6, f7, f8, f9, f10, f11, f12, by omega, by omega, f15⟩ hl hr hz ho h1 h2
theorem x_ireturn {v : Int32} {ty : FieldType} (hd : decode M.2.1 pc = .ok (.ireturn, 1)) (hr0 : M.2.2.2.1 = some ty) (hn : narrow ty (.int v) = .int v) (hq : Q (.inl (some (.int v))) h) : EX G M d pc lv [.int v] h Q := by
  intro p e R s m args below meth c n0 ls H locs hF hl hr hz ho h1 h2 T hT X
  have hlocks : meth.locks = false := hF.2.2.2.2.1
  have hrt := hF.2.2.2.1
  obtain ⟨fs, hret, hrun, hended, hW, hframe⟩ := X.leave (v := (some (.int v))) (fun h => by rw [hrt, hr0] at h; cases h)
  have hmeth' : T.vm.method? m = some meth := X.method'
  refine ⟨T.setFrames fs, ?_, .inl (some (.int v)), h, locs, hq, by rw [show (T.setFrames fs).heap = T.heap from rfl, hT]; exact hr, by rw [show (T.setFrames fs).heap = T.heap from rfl, hT]; exact hz, hrun, hended, hW, hframe, ho, h1, h2⟩
  jvm_step X.here [X.here.top, hF.1, hF.2.1, hd, hmeth', hrt, hr0, hn]
  (try refine ⟨rfl, ?_⟩); (try refine ⟨rfl, ?_⟩)
  first | (intro acts; rw [hret _ acts rfl rfl rfl]) | rw [hret _ _ rfl rfl rfl]
  exact Steps.refl _
theorem x_lreturn {v : Int64} (hd : decode M.2.1 pc = .ok (.lreturn, 1)) (hr0 : M.2.2.2.1 = some .long) (hq : Q (.inl (some (.long v))) h) : EX G M d pc lv [.long v] h Q := by
  intro p e R s m args below meth c n0 ls H locs hF hl hr hz ho h1 h2 T hT X
  have hlocks : meth.locks = false := hF.2.2.2.2.1
  have hrt := hF.2.2.2.1
  obtain ⟨fs, hret, hrun, hended, hW, hframe⟩ := X.leave (v := (some (.long v))) (fun h => by rw [hrt, hr0] at h; cases h)
  have hmeth' : T.vm.method? m = some meth := X.method'
  refine ⟨T.setFrames fs, ?_, .inl (some (.long v)), h, locs, hq, by rw [show (T.setFrames fs).heap = T.heap from rfl, hT]; exact hr, by rw [show (T.setFrames fs).heap = T.heap from rfl, hT]; exact hz, hrun, hended, hW, hframe, ho, h1, h2⟩
  jvm_step X.here [X.here.top, hF.1, hF.2.1, hd, hmeth', hrt, hr0, narrow]
  (try refine ⟨rfl, ?_⟩); (try refine ⟨rfl, ?_⟩)
  first | (intro acts; rw [hret _ acts rfl rfl rfl]) | rw [hret _ _ rfl rfl rfl]
  exact Steps.refl _
theorem x_return  (hd : decode M.2.1 pc = .ok (.return_, 1)) (hr0 : M.2.2.2.1 = none) (hq : Q (.inl none) h) : EX G M d pc lv [] h Q := by
  intro p e R s m args below meth c n0 ls H locs hF hl hr hz ho h1 h2 T hT X
  have hlocks : meth.locks = false := hF.2.2.2.2.1
  have hrt := hF.2.2.2.1
  obtain ⟨fs, hret, hrun, hended, hW, hframe⟩ := X.leave (v := none) (fun _ => rfl)
  have hmeth' : T.vm.method? m = some meth := X.method'
  refine ⟨T.setFrames fs, ?_, .inl none, h, locs, hq, by rw [show (T.setFrames fs).heap = T.heap from rfl, hT]; exact hr, by rw [show (T.setFrames fs).heap = T.heap from rfl, hT]; exact hz, hrun, hended, hW, hframe, ho, h1, h2⟩
  jvm_step X.here [X.here.top, hF.1, hF.2.1, hd, hmeth', hrt, hr0]
  (try refine ⟨rfl, ?_⟩); (try refine ⟨rfl, ?_⟩)
  first | (intro acts; rw [hret _ acts rfl rfl rfl]) | rw [hret _ _ rfl rfl rfl]
  exact Steps.refl _
theorem x_areturn {a : Nat} {n : String} (hd : decode M.2.1 pc = .ok (.areturn, 1)) (hr0 : M.2.2.2.1 = some (.object n)) (hq : Q (.inl (some (.ref a))) h) : EX G M d pc lv [.ref a] h Q := by
  intro p e R s m args below meth c n0 ls H locs hF hl hr hz ho h1 h2 T hT X
  have hlocks : meth.locks = false := hF.2.2.2.2.1
  have hrt := hF.2.2.2.1
  obtain ⟨fs, hret, hrun, hended, hW, hframe⟩ := X.leave (v := (some (.ref a))) (fun h => by rw [hrt, hr0] at h; cases h)
  have hmeth' : T.vm.method? m = some meth := X.method'
  refine ⟨T.setFrames fs, ?_, .inl (some (.ref a)), h, locs, hq, by rw [show (T.setFrames fs).heap = T.heap from rfl, hT]; exact hr, by rw [show (T.setFrames fs).heap = T.heap from rfl, hT]; exact hz, hrun, hended, hW, hframe, ho, h1, h2⟩
  (jvm_step X.here [X.here.top, hF.1, hF.2.1, hd, hmeth', hrt, hr0]
   (try refine ⟨rfl, ?_⟩); (try refine ⟨rfl, ?_⟩)
   first | (intro acts; rw [hret _ acts rfl rfl rfl]) | rw [hret _ _ rfl rfl rfl]
   exact Steps.refl _)
theorem x_areturnN {n : String} (hd : decode M.2.1 pc = .ok (.areturn, 1)) (hr0 : M.2.2.2.1 = some (.object n)) (hq : Q (.inl (some .null)) h) : EX G M d pc lv [.null] h Q := by
  intro p e R s m args below meth c n0 ls H locs hF hl hr hz ho h1 h2 T hT X
  have hlocks : meth.locks = false := hF.2.2.2.2.1
  have hrt := hF.2.2.2.1
  obtain ⟨fs, hret, hrun, hended, hW, hframe⟩ := X.leave (v := (some .null)) (fun h => by rw [hrt, hr0] at h; cases h)
  have hmeth' : T.vm.method? m = some meth := X.method'
  refine ⟨T.setFrames fs, ?_, .inl (some .null), h, locs, hq, by rw [show (T.setFrames fs).heap = T.heap from rfl, hT]; exact hr, by rw [show (T.setFrames fs).heap = T.heap from rfl, hT]; exact hz, hrun, hended, hW, hframe, ho, h1, h2⟩
  (jvm_step X.here [X.here.top, hF.1, hF.2.1, hd, hmeth', hrt, hr0]
   (try refine ⟨rfl, ?_⟩); (try refine ⟨rfl, ?_⟩)
   first | (intro acts; rw [hret _ acts rfl rfl rfl]) | rw [hret _ _ rfl rfl rfl]
   exact Steps.refl _)
end XR
end
section
/-! calls: the callee's walk inside the caller's; both outcomes -/
section XC
theorem xWd.at {s U : State} (h : xWd s) (hW : s.WarmedH U.vm) : xWd U := fun w hw => xWS_warm w hw hW (h w hw)
theorem xWd.use {s : State} {args : Array Value} {w : Cond} (h : xWd s) (hw : w ∈ xWS) : w.before args s = true := xWS_warm w hw (State.WarmedH.refl s) (h w hw)
theorem xSd.use {s : State} {args : Array Value} {w : Cond} (h : xSd s) (hw : w ∈ xSW) : w.before args s = true := by
  have h1 := h w hw
  simp only [xSW, List.mem_cons, List.not_mem_nil, or_false] at hw
  rcases hw with rfl | rfl | rfl | rfl <;> exact h1
theorem xSd.lays {s U : State} {O n d : String} (hW : s.WarmedH U.vm) (hz : xKeepS s.heap U.heap) (h : (Cond.laysStatic O n d).before #[] s = true) : (Cond.laysStatic O n d).before #[] U = true := by
  have h1 : (Cond.laysStatic O n d).before #[] (s.setVm U.vm) = true := Cond.holds_shifted (State.Shifted.of_warmed hW) _ [] rfl h
  simp only [Cond.before, Cond.holds, Cond.value] at h1 ⊢
  rw [show (s.setVm U.vm).vm = U.vm from rfl, show (s.setVm U.vm).fieldFound? O n d = U.fieldFound? O n d from rfl, show (s.setVm U.vm).heap = s.heap from rfl] at h1
  cases hc : U.vm.findClass O with
  | none => simp [hc] at h1
  | some c =>
    cases hf : U.fieldFound? O n d with
    | none => simp [hc, hf] at h1
    | some q =>
      obtain ⟨c', k, i, f⟩ := q
      simp only [hc, hf] at h1 ⊢
      cases hst : k.statics with
      | none => simp [hst] at h1
      | some a =>
        simp only [hst, Option.bind_some] at h1 ⊢
        cases hcell : s.heap[a]? with
        | none => simp [hcell] at h1
        | some cell =>
          have hs : cell.vm.isStatics = true := by
            simp [hcell] at h1
            exact h1.1.1.1.2
          rw [hz a cell hcell hs]
          rw [hcell] at h1
          exact h1
theorem xSd.ref {s U : State} {O n d : String} (hW : s.WarmedH U.vm) (hz : xKeepS s.heap U.heap) (h : (Cond.isRef (.static O n d)).before #[] s = true) : (Cond.isRef (.static O n d)).before #[] U = true := by
  have h1 : (Cond.isRef (.static O n d)).before #[] (s.setVm U.vm) = true := Cond.holds_shifted (State.Shifted.of_warmed hW) _ [] rfl h
  simp only [Cond.before, Cond.holds, Cond.value, Term.eval] at h1 ⊢
  rw [show (s.setVm U.vm).fieldNamed? O n d true = U.fieldNamed? O n d true from rfl, show (s.setVm U.vm).heap = s.heap from rfl] at h1
  cases hf : U.fieldNamed? O n d true with
  | none => simp [hf] at h1
  | some q =>
    obtain ⟨c', k, i⟩ := q
    simp only [hf, Option.bind_eq_bind, Option.bind_some] at h1 ⊢
    cases hst : k.statics with
    | none => simp [hst] at h1
    | some a =>
      simp only [hst, Option.bind_some] at h1 ⊢
      cases hcell : s.heap[a]? with
      | none => simp [hcell] at h1
      | some cell =>
        by_cases hs : cell.vm.isStatics = true
        · rw [hz a cell hcell hs]
          rw [hcell] at h1
          exact h1
        · simp [hcell, hs] at h1
theorem xSd.at {s U : State} (h : xSd s) (hW : s.WarmedH U.vm) (hz : xKeepS s.heap U.heap) : xSd U := by
  intro w hw
  have h1 := h w hw
  simp only [xSW, List.mem_cons, List.not_mem_nil, or_false] at hw
  rcases hw with rfl | rfl | rfl | rfl
  · exact xSd.lays hW hz h1
  · exact xSd.lays hW hz h1
  · exact xSd.ref hW hz h1
  · exact xSd.ref hW hz h1
theorem xKeepS.rf {H : Heap} : xKeepS H H := fun _ _ h _ => h
theorem xKeepS.trans {H1 H2 H3 : Heap} (h : xKeepS H1 H2) (k : xKeepS H2 H3) : xKeepS H1 H3 := fun a c hc hs => k a c (h a c hc hs) hs
theorem xRep.P {G : xG} {h : xH} {H : Heap} {a : Nat} {e : va_E} (hr : xRep G h H) (he : h.2.2 a = some e) : va_P (gD G) xcl [(a, e)] H := by
  intro k q hk
  have hz : k < 1 := (List.getElem?_eq_some_iff.mp hk).1
  rw [show k = 0 by omega] at hk
  cases hk
  exact (hr.2.2.2.2.2 a e he).2
theorem xRep.lo {G : xG} {h : xH} {H : Heap} {a : Nat} {e : va_E} (hr : xRep G h H) (he : h.2.2 a = some e) : gA G ≤ a := (hr.2.2.2.2.2 a e he).1
theorem xSteps.weaken {tb : Tables} {e : Env} {mid below : List Frame} {a b : State} (h : Steps tb e (mid ++ below) a b) : Steps tb e below a b := by
  obtain ⟨n, hn, w⟩ := h
  exact ⟨n, hn, fun k hk => (w k hk).weaken⟩
set_option maxRecDepth 100000 in
theorem xAr {z d r : Nat} (h : z ≤ 64) (k : 64 * (d + 1) + 256 ≤ r) : z + (64 * d + 256) ≤ r := by omega
/-- the method's code stands in the tables -/
def xHas (M : xM) : Prop := (M.2.2.2.2 = [] ∧ .code M.1 M.2.1 M.2.2.1 M.2.2.2.1 ∈ xWS) ∨ .codeWith M.1 M.2.1 M.2.2.1 M.2.2.2.1 M.2.2.2.2 ∈ xWS
theorem xHas.spec {M : xM} {U : State} (h : xHas M) (hw : xWd U) {mk : MethodId} (hn : U.methodNamed? M.1 = some mk) : ∃ meth c, U.vm.method? mk = some meth ∧ meth.code = some c ∧ c.code = M.2.1 ∧ c.maxLocals = M.2.2.1 ∧ meth.sig.returnType = M.2.2.2.1 ∧ meth.locks = false ∧
    c.exceptionTable.toList.map (fun h => (h.startPc, h.endPc, h.handlerPc, h.catchType)) = M.2.2.2.2 ∧ parseMethodDescriptor M.1.desc = some meth.sig := by
  rcases h with ⟨h0, h⟩ | h
  · obtain ⟨meth, c, q1, q2, q3, q4, q5, q6, q7, q8⟩ := Cond.code_spec hn (hw _ h)
    refine ⟨meth, c, q1, q2, q3, q4, q5, q6, ?_, q8⟩
    rw [h0]
    have : c.exceptionTable = #[] := by simpa using q7
    rw [this]; rfl
  · obtain ⟨m', meth, c, q0, q1, q2, q3, q4, q5, q6, q7, q8⟩ := Cond.codeWith_spec (hw _ h)
    cases hn.symm.trans q0
    exact ⟨meth, c, q1, q2, q3, q4, q6, q7, q5, q8⟩
/-- where a call has come: returned, or thrown, the note over the caller's frame -/
def xCame (T : State) (g : JFrame) (len : Nat) (r : xR) : State := match r with
  | .inl v => T.setTop { g with pc := g.pc + len, stack := v.toList ++ g.stack }
  | .inr a => (T.setTop g).pushFrame (.throwing a)
variable {G : xG} {M M' : xM} {d : Nat} {p : Program} {e : Env} {R : Room} {s : State} {m : MethodId} {args : Array Value} {below : List Frame} {meth : Method} {c : Code} {n0 : Nat} {h : xH} {T : State} {locs : List Loc}
set_option maxHeartbeats 1000000 in
theorem xBody (X : Stand p (gL G) e R s m args below meth c T locs (h.1 - s.heap.size) (h.2.1 - n0)) (hF : xFix G M (d + 1) p R s m meth c n0) (hr : xRep G h T.heap) (hz : xKeepS s.heap T.heap) (ho : ∀ q ∈ locs, gA G ≤ q.base) (h1 : s.heap.size ≤ h.1) (h2 : n0 ≤ h.2.1)
    (hc : xHas M') (hpl : plainFor M'.1 = true) {mk : MethodId} (hn : T.methodNamed? M'.1 = some mk) {As : List Value} (hlen : (lg_sl As).length ≤ M'.2.2.1)
    {Qc : xR → xH → Prop} (hK : EX G M' d 0 (lv_args 0 As) [] h Qc)
    {g : JFrame} (hg : g.method = m) (hsize : g.locals.size = c.maxLocals) (hW : 2 * g.monitorRoom + (g.stack.map fun v => v.category).sum + (M'.2.2.1 + 11) ≤ 64) {ig : Instr} {len : Nat} (hdg : decode c.code g.pc = .ok (ig, len)) :
    ∃ (r : xR) (h' : xH) (T' : State) (L : List Loc), Qc r h' ∧ xRep G h' T'.heap ∧ xKeepS s.heap T'.heap ∧ s.heap.size ≤ h'.1 ∧ n0 ≤ h'.2.1 ∧ (∀ q ∈ locs ++ L, gA G ≤ q.base) ∧
      Stand p (gL G) e R s m args below meth c T' (locs ++ L) (h'.1 - s.heap.size) (h'.2.1 - n0) ∧ Steps p.tables e below (doInvoke e (T.setTop g) [] mk As.toArray).1 (xCame T' g len r) := by
  obtain ⟨f1, f2, f3, f4, f5, f6, f7, f8, f9, f10, f11, f12, f13, f14, f15, f16⟩ := hF
  have hWT : s.WarmedH T.vm := X.warmed
  have hwT : xWd T := f9.at hWT
  obtain ⟨methk, ck, q2, q3, q4, q5, q7, q8, q6, q9⟩ := hc.spec hwT hn
  have hszT : T.heap.size = h.1 := hr.1
  have hb1 := hr.2.1
  have hb2 := hr.2.2.1
  have hloc : 2 * g.monitorRoom + (g.stack.map fun v => v.category).sum + (ck.maxLocals + 11) + (64 * d + 256) ≤ R.locals := by
    rw [q5]
    exact xAr hW f14
  obtain ⟨Y, hent⟩ := X.into hg hsize hdg As.toArray (R' := { frames := d + 16, locals := 64 * d + 256, cells := gC G - h.1, slots := gS G - h.2.1 }) q2 q3 q8 (State.plainMethod.of_named (s := T) hpl hn q2)
    (by show d + 16 + 1 ≤ R.frames; omega) hloc (by show _ + (gC G - h.1) ≤ R.cells; omega) (by show _ + (gS G - h.2.1) ≤ R.slots; omega)
  obtain ⟨Tn, hTn⟩ : ∃ z, z = (T.setTop g).pushFrame (.java (entryFrame mk As.toArray ck.maxLocals)) := ⟨_, rfl⟩
  rw [← hTn] at Y
  simp only [← hTn] at hent
  have hheapN : Tn.heap = T.heap := by rw [hTn]; simp [State.pushFrame, State.setFrames, State.setTop, State.modifyTopJava]
  have hheapS : (T.calling g mk As.toArray).heap = T.heap := rfl
  have hvmS : (T.calling g mk As.toArray).vm = T.vm := rfl
  have hWS : T.WarmedH (T.calling g mk As.toArray).vm := by rw [hvmS]; exact State.WarmedH.refl T
  have hsWS : s.WarmedH (T.calling g mk As.toArray).vm := by rw [hvmS]; exact hWT
  have hFk : xFix G M' d p { frames := d + 16, locals := 64 * d + 256, cells := gC G - h.1, slots := gS G - h.2.1 } (T.calling g mk As.toArray) mk methk ck h.2.1 := by
    refine ⟨f1, q4, q5, q7, q8, q6, ?_, q2, hwT.at hWS, xSd.at f10 hsWS hz, State.isArrayOf_alike hsWS.alike f11, va_K.moved hsWS.alike f12, Nat.le_refl _, Nat.le_refl _, ?_, ?_⟩
    · show T.methodNamed? M'.1 = some mk; exact hn
    · show gC G ≤ T.heap.size + (gC G - h.1); omega
    · show gS G ≤ h.2.1 + (gS G - h.2.1); omega
  have hl0 := lv_entry As hlen
  have key := hK p e _ (T.calling g mk As.toArray) mk As.toArray (.java g :: below) methk ck h.2.1 _ T.heap [] hFk hl0 hr xKeepS.rf (fun q hq => by cases hq) (by rw [hheapS, hszT]; exact Nat.le_refl _) (Nat.le_refl _)
  have e1 : h.1 - (T.calling g mk As.toArray).heap.size = 0 := by rw [hheapS, hszT]; exact Nat.sub_self _
  have e2 : h.2.1 - h.2.1 = 0 := Nat.sub_self _
  rw [e1, e2] at key
  obtain ⟨t, st, r, h', L, hq, hr', hz', hrun, hend, hWt, hsame, hL, g1, g2⟩ := key Tn hheapN Y
  have e3 : (T.calling g mk As.toArray).heap.size = h.1 := by rw [hheapS]; exact hszT
  rw [e3] at g1 hsame
  have hst : Steps p.tables e below (doInvoke e (T.setTop g) [] mk As.toArray).1 t := by
    rw [hent [], q5, lg_entry_eq]
    exact xSteps.weaken (mid := [.java g]) st
  have hcell : h.1 - s.heap.size + (h'.1 - h.1) = h'.1 - s.heap.size := by omega
  have hslot : h.2.1 - n0 + (h'.2.1 - h.2.1) = h'.2.1 - n0 := by omega
  have hLL : ∀ q ∈ locs ++ L, gA G ≤ q.base := fun q hq' => by
    rcases List.mem_append.mp hq' with a | a
    · exact ho q a
    · exact hL q a
  have hzz : xKeepS s.heap t.heap := hz.trans hz'
  cases r with
  | inl v =>
    obtain ⟨T', X', -, -, ht⟩ := X.outOf hg hdg hend hWt hsame
    rw [hcell, hslot] at X'
    have hh : T'.heap = t.heap := by rw [ht]; simp [State.setTop, State.modifyTopJava]
    exact ⟨.inl v, h', T', L, hq, by rw [hh]; exact hr', by rw [hh]; exact hzz, by omega, by omega, hLL, X', by rw [show xCame T' g len (.inl v) = t from ht.symm]; exact hst⟩
  | inr a =>
    obtain ⟨T', X', -, -, ht⟩ := X.outOfThrown hg hend hWt hsame
    rw [hcell, hslot] at X'
    have hh : T'.heap = t.heap := by rw [ht]; simp [State.pushFrame, State.setFrames, State.setTop, State.modifyTopJava]
    exact ⟨.inr a, h', T', L, hq, by rw [hh]; exact hr', by rw [hh]; exact hzz, by omega, by omega, hLL, X', by rw [show xCame T' g len (.inr a) = t from ht.symm]; exact hst⟩
/-- what is asked of a throw at pc: it leaves the method, or goes to a row of its table -/
def xThr (G : xG) (M : xM) (d pc : Nat) (lv : List (Nat × Value)) (h : xH) (Q : xR → xH → Prop) (a : Addr) : Prop :=
  ∀ (p : Program) (e : Env) (R : Room) (s : State) (m : MethodId) (args : Array Value) (below : List Frame) (meth : Method) (c : Code) (n0 : Nat) (ls : Array Slot) (locs : List Loc) (T : State) (st : List Value),
    xFix G M d p R s m meth c n0 → lv_has ls M.2.2.1 lv → xRep G h T.heap → xKeepS s.heap T.heap → (∀ q ∈ locs, gA G ≤ q.base) → s.heap.size ≤ h.1 → n0 ≤ h.2.1 →
    Stand p (gL G) e R s m args below meth c T locs (h.1 - s.heap.size) (h.2.1 - n0) → ∃ t, Steps p.tables e below ((T.setTop (F0 m pc ls st)).pushFrame (.throwing a)) t ∧ xEnd G s below n0 Q t
/-- no row takes it -/
theorem xThr.out {G : xG} {M : xM} {d pc : Nat} {lv : List (Nat × Value)} {h : xH} {Q : xR → xH → Prop} {a : Addr} (hno : M.2.2.2.2 = []) (hq : Q (.inr a) h) : xThr G M d pc lv h Q a := by
  intro p e R s m args below meth c n0 ls locs T st hF hl hr hz ho h1 h2 X
  have hlocks : meth.locks = false := hF.2.2.2.2.1
  have hex := hF.2.2.2.2.2.1
  rw [hno] at hex
  have hex : c.exceptionTable.toList = [] := List.map_eq_nil_iff.mp hex
  obtain ⟨w, hrun, hended, hW, hframe⟩ := X.leaveThrown a (g := F0 m pc ls st) rfl rfl rfl (fun x hx => by rw [hex] at hx; cases hx)
  exact ⟨_, w, .inr a, h, locs, hq, hr, hz, hrun, hended, hW, hframe, ho, h1, h2⟩
/-- behind the invoking instruction's own linking: the call, and what comes of it -/
theorem xAfter {G : xG} {M M' : xM} {d pc : Nat} {lv : List (Nat × Value)} {st : List Value} {h : xH} {Q Qc : xR → xH → Prop} {p : Program} {e : Env} {R : Room} {s : State} {m : MethodId} {args : Array Value} {below : List Frame} {meth : Method} {c : Code} {n0 : Nat} {T : State} {locs : List Loc} {ls : Array Slot}
    (X : Stand p (gL G) e R s m args below meth c T locs (h.1 - s.heap.size) (h.2.1 - n0)) (hF : xFix G M (d + 1) p R s m meth c n0) (hl : lv_has ls M.2.2.1 lv) (hr : xRep G h T.heap) (hz : xKeepS s.heap T.heap) (ho : ∀ q ∈ locs, gA G ≤ q.base) (h1 : s.heap.size ≤ h.1) (h2 : n0 ≤ h.2.1)
    (hc : xHas M') (hpl : plainFor M'.1 = true) {mk : MethodId} (hn : T.methodNamed? M'.1 = some mk) {As : List Value} (hlen : (lg_sl As).length ≤ M'.2.2.1) (hK : EX G M' d 0 (lv_args 0 As) [] h Qc)
    (hW : (st.map fun v => v.category).sum + (M'.2.2.1 + 11) ≤ 64) {ig : Instr} (hdg : decode M.2.1 pc = .ok (ig, 3))
    (kr : ∀ v h', Qc (.inl v) h' → EX G M (d + 1) (pc + 3) lv (v.toList ++ st) h' Q) (kt : ∀ a h', Qc (.inr a) h' → xThr G M (d + 1) pc lv h' Q a) :
    ∃ t, Steps p.tables e below (doInvoke e (T.setTop (F0 m pc ls st)) [] mk As.toArray).1 t ∧ xEnd G s below n0 Q t := by
  obtain ⟨r, h', T', L, hq, hr', hz', g1, g2, hL, X', hst⟩ := xBody X hF hr hz ho h1 h2 hc hpl hn hlen hK (g := F0 m pc ls st) rfl (hl.1.trans hF.2.2.1.symm) (by simpa [JFrame.monitorRoom] using hW) (ig := ig) (len := 3) (by rw [hF.2.1]; exact hdg)
  cases r with
  | inl v =>
    obtain ⟨t, a1, b1⟩ := kr v h' hq p e R s m args below meth c n0 ls T'.heap (locs ++ L) hF hl hr' hz' hL g1 g2 T' rfl X'
    exact ⟨t, hst.trans a1, b1⟩
  | inr a =>
    obtain ⟨t, a1, b1⟩ := kt a h' hq p e R s m args below meth c n0 ls (locs ++ L) T' st hF hl hr' hz' hL g1 g2 X'
    exact ⟨t, hst.trans a1, b1⟩
/-- what a call's place in the code needs of the tables -/
def xLk (own : String) (index : Nat) (M' : xM) (n : Nat) : Prop := (.methodLink own index M'.1 ∈ xWS ∨ ∃ host, .methodLinkNest own index M'.1 host ∈ xWS) ∧ xHas M' ∧ plainFor M'.1 = true ∧
  (M'.1.cls ≠ "java/lang/invoke/MethodHandle" ∧ M'.1.cls ≠ "java/lang/invoke/VarHandle") ∧ (parseMethodDescriptor M'.1.desc).map (fun q => q.parameters.length) = some n
def xLkS (own : String) (index : Nat) (M' : xM) (n : Nat) : Prop := xLk own index M' n ∧ .static M'.1 ∈ xWS ∧ .initialized M'.1.cls ∈ xWS
def xLkV (own : String) (index : Nat) (M' : xM) (n ci : Nat) : Prop := xLk own index M' n ∧ .instanceMethod M'.1 ∈ xWS ∧ .selects M'.1.cls M'.1 M'.1 ∈ xWS ∧ ∃ T N, xcl[ci]? = some (M'.1.cls, T, N)
def xLkI (own : String) (index : Nat) (M' : xM) (n : Nat) : Prop := xLk own index M' n ∧ .instanceMethod M'.1 ∈ xWS ∧ M'.1.name = "<init>" ∧ .code M'.1 M'.2.1 M'.2.2.1 none ∈ xWS
end XC
section XC2
variable {G : xG} {M M' : xM} {d pc : Nat} {lv : List (Nat × Value)} {st : List Value} {h : xH} {Q Qc : xR → xH → Prop} {As : List Value} {index n : Nat}
theorem xLen {y : MethodName} {n : Nat} {sig : MethodDescriptor} (h : (parseMethodDescriptor y.desc).map (fun q => q.parameters.length) = some n) (hs : parseMethodDescriptor y.desc = some sig) : n = sig.parameters.length := by
  rw [hs] at h
  exact (Option.some.inj h).symm
set_option maxHeartbeats 1000000 in
theorem x_callS (hd : decode M.2.1 pc = .ok (.invokestatic index, 3)) (hk : xLkS M.1.cls index M' n) (hAs : As.length = n) (hlen : (lg_sl As).length ≤ M'.2.2.1) (hW : (st.map fun v => v.category).sum + (M'.2.2.1 + 11) ≤ 64)
    (hK : EX G M' d 0 (lv_args 0 As) [] h Qc) (kr : ∀ v h', Qc (.inl v) h' → EX G M (d + 1) (pc + 3) lv (v.toList ++ st) h' Q) (kt : ∀ a h', Qc (.inr a) h' → xThr G M (d + 1) pc lv h' Q a) : EX G M (d + 1) pc lv (As.reverse ++ st) h Q := by
  intro p e R s m args below meth c n0 ls H locs hF hl hr hz ho h1 h2 T hT X
  subst hT
  obtain ⟨⟨hlk, hc, hpl, hy, hpn⟩, hst, hin⟩ := hk
  obtain ⟨f1, f2, f3, f4, f5, f6, f7, f8, f9, -⟩ := id hF
  have hown := findClass_of_methodNamed f7
  have hnm : ∃ mk, s.methodNamed? M'.1 = some mk := by
    rcases hc with ⟨-, hc⟩ | hc
    · exact Cond.code_named (f9 _ hc)
    · obtain ⟨mk, _, _, q, -⟩ := Cond.codeWith_spec (f9 _ hc); exact ⟨mk, q⟩
  obtain ⟨mk, hnamed⟩ := hnm
  obtain ⟨methM, cM, q1, q2, -, -, -, -, -, q9⟩ := hc.spec f9 hnamed
  have hstatic : methM.isStatic = true := Cond.static_spec hnamed q1 (f9 _ hst)
  obtain ⟨kP, hkP, -⟩ := className_of_methodNamed hnamed
  have hinitP : kP.init = .initialized := Cond.initialized_spec (findClass_of_methodNamed hnamed) hkP (f9 _ hin)
  have hl2 : As.length = methM.sig.parameters.length := hAs.trans (xLen hpn q9)
  have hdc : decode c.code pc = .ok (.invokestatic index, 3) := by rw [f2]; exact hd
  have go : ∃ vm', Stand p (gL G) e R s m args below meth c (T.setVm vm') locs (h.1 - s.heap.size) (h.2.1 - n0) ∧ ∀ target, (∀ acts, Steps p.tables e below (doInvoke e ((T.setVm vm').setTop { (F0 m pc ls (As.reverse ++ st)) with stack := st }) acts mk As.toArray).1 target) → Steps p.tables e below (T.setTop (F0 m pc ls (As.reverse ++ st))) target := by
    rcases hlk with hlk | ⟨host, hlk⟩
    · exact X.invokestatic f1 hown (f9.use hlk) hnamed q1 hstatic hkP hinitP hy (g := F0 m pc ls (As.reverse ++ st)) rfl (argsL := As) (rest := st) hl2 rfl hdc
    · exact X.invokestaticNest f1 hown (f9.use hlk) hnamed q1 hstatic hkP hinitP hy (g := F0 m pc ls (As.reverse ++ st)) rfl (argsL := As) (rest := st) hl2 rfl hdc
  obtain ⟨vm', X', stp⟩ := go
  obtain ⟨t, a1, b1⟩ := xAfter X' hF hl (T := T.setVm vm') hr hz ho h1 h2 hc hpl (X'.named hnamed) hlen hK hW hd kr kt
  exact ⟨t, stp t (fun acts => by rw [doInvoke_state]; exact a1), b1⟩
set_option maxHeartbeats 1000000 in
theorem x_callV {ci b : Nat} {fs : List Value} (hd : decode M.2.1 pc = .ok (.invokevirtual index, 3)) (hk : xLkV M.1.cls index M' n ci) (hb : h.2.2 b = some (.inr (ci, fs))) (hAs : As.length = n) (hlen : (lg_sl (.ref b :: As)).length ≤ M'.2.2.1) (hW : (st.map fun v => v.category).sum + (M'.2.2.1 + 11) ≤ 64)
    (hK : EX G M' d 0 (lv_args 0 (.ref b :: As)) [] h Qc) (kr : ∀ v h', Qc (.inl v) h' → EX G M (d + 1) (pc + 3) lv (v.toList ++ st) h' Q) (kt : ∀ a h', Qc (.inr a) h' → xThr G M (d + 1) pc lv h' Q a) : EX G M (d + 1) pc lv (As.reverse ++ .ref b :: st) h Q := by
  intro p e R s m args below meth c n0 ls H locs hF hl hr hz ho h1 h2 T hT X
  subst hT
  obtain ⟨⟨hlk, hc, hpl, hy, hpn⟩, hins, hsel, TT, NN, hcl⟩ := hk
  obtain ⟨f1, f2, f3, f4, f5, f6, f7, f8, f9, f10, f11, f12, -⟩ := id hF
  have hown := findClass_of_methodNamed f7
  obtain ⟨mk, methM, hnamed, hmethM, hstM, habM⟩ := Cond.instanceMethod_spec (f9 _ hins)
  obtain ⟨methM', cM, q1, q2, -, -, -, -, -, q9⟩ := hc.spec f9 hnamed
  cases hmethM.symm.trans q1
  obtain ⟨c2, r2, m2, z1, z2, z3, z4, kP, hkP, hkPi⟩ := Cond.selects_spec (f9 _ hsel)
  obtain ⟨cellB, hcB, hoB, hclB⟩ := va_recv f12 (hr.P hb) hcl (q0 := 0) rfl
  cases hclB.symm.trans z1
  cases (State.methodFound?_of_named hnamed hy).symm.trans z2
  cases hnamed.symm.trans z3
  have hselP : selectMethod e.platform s.vm cellB.cls mk = .method mk := by rw [Launch.admits_selectMethod X.admits]; exact z4
  have hl2 : As.length = methM.sig.parameters.length := hAs.trans (xLen hpn q9)
  have hdc : decode c.code pc = .ok (.invokevirtual index, 3) := by rw [f2]; exact hd
  have go : ∃ vm', Stand p (gL G) e R s m args below meth c (T.setVm vm') locs (h.1 - s.heap.size) (h.2.1 - n0) ∧ ∀ target, (∀ acts, Steps p.tables e below (doInvoke e ((T.setVm vm').setTop { (F0 m pc ls (As.reverse ++ .ref b :: st)) with stack := st }) acts mk (Value.ref b :: As).toArray).1 target) → Steps p.tables e below (T.setTop (F0 m pc ls (As.reverse ++ .ref b :: st))) target := by
    rcases hlk with hlk | ⟨host, hlk⟩
    · exact X.invokevirtual f1 hown (f9.use hlk) hnamed hmethM hstM hkP hkPi hy (a := b) (cell := cellB) hcB (fun z hh => by rw [hh] at hoB; cases hoB) hselP hmethM habM hkP hkPi (g := F0 m pc ls (As.reverse ++ .ref b :: st)) rfl (argsL := As) (rest := st) hl2 rfl hdc
    · exact X.invokevirtualNest f1 hown (f9.use hlk) hnamed hmethM hstM hkP hkPi hy (a := b) (cell := cellB) hcB (fun z hh => by rw [hh] at hoB; cases hoB) hselP hmethM habM hkP hkPi (g := F0 m pc ls (As.reverse ++ .ref b :: st)) rfl (argsL := As) (rest := st) hl2 rfl hdc
  obtain ⟨vm', X', stp⟩ := go
  obtain ⟨t, a1, b1⟩ := xAfter X' hF hl (T := T.setVm vm') hr hz ho h1 h2 hc hpl (X'.named hnamed) hlen hK hW hd kr kt
  exact ⟨t, stp t (fun acts => by rw [doInvoke_state]; exact a1), b1⟩
set_option maxHeartbeats 1000000 in
theorem x_callI {b : Nat} (hd : decode M.2.1 pc = .ok (.invokespecial index, 3)) (hk : xLkI M.1.cls index M' n) (hAs : As.length = n) (hlen : (lg_sl (.ref b :: As)).length ≤ M'.2.2.1) (hW : (st.map fun v => v.category).sum + (M'.2.2.1 + 11) ≤ 64)
    (hK : EX G M' d 0 (lv_args 0 (.ref b :: As)) [] h Qc) (kr : ∀ v h', Qc (.inl v) h' → EX G M (d + 1) (pc + 3) lv (v.toList ++ st) h' Q) (kt : ∀ a h', Qc (.inr a) h' → xThr G M (d + 1) pc lv h' Q a) : EX G M (d + 1) pc lv (As.reverse ++ .ref b :: st) h Q := by
  intro p e R s m args below meth c n0 ls H locs hF hl hr hz ho h1 h2 T hT X
  subst hT
  obtain ⟨⟨hlk, hc, hpl, hy, hpn⟩, hins, hin, hcd⟩ := hk
  obtain ⟨f1, f2, f3, f4, f5, f6, f7, f8, f9, f10, f11, f12, -⟩ := id hF
  have hown := findClass_of_methodNamed f7
  have hpf : e.platform.magicAccessors = ({} : Platform).magicAccessors := by rw [X.admits.platform]
  have hdc : decode c.code pc = .ok (.invokespecial index, 3) := by rw [f2]; exact hd
  have hcode : (Cond.code M'.1 M'.2.1 M'.2.2.1 none).before args s = true := f9.use hcd
  have hlen2 : ∀ sig, parseMethodDescriptor M'.1.desc = some sig → As.length = sig.parameters.length := fun sig hs => hAs.trans (xLen hpn hs)
  have go : ∃ mk vm', s.methodNamed? M'.1 = some mk ∧ Stand p (gL G) e R s m args below meth c (T.setVm vm') locs (h.1 - s.heap.size) (h.2.1 - n0) ∧ ∀ target, (∀ acts, Steps p.tables e below (doInvoke e ((T.setVm vm').setTop { (F0 m pc ls (As.reverse ++ .ref b :: st)) with stack := st }) acts mk (Value.ref b :: As).toArray).1 target) → Steps p.tables e below (T.setTop (F0 m pc ls (As.reverse ++ .ref b :: st))) target := by
    rcases hlk with hlk | ⟨host, hlk⟩
    · obtain ⟨mk, _, _, _, vm₁, hnamed, -, -, -, -, -, -, -, hW₁, hstep₁⟩ := Steps.initColdArgs (e := e) X.here f1 X.warmed hpf hown hin hy (f9.use hlk) (f9.use hins) hcode (f := F0 m pc ls (As.reverse ++ .ref b :: st)) rfl hlen2 rfl hdc
      exact ⟨mk, vm₁, hnamed, X.noted hW₁, hstep₁⟩
    · obtain ⟨mk, _, _, _, vm₁, hnamed, -, -, -, -, -, -, -, hW₁, hstep₁⟩ := Steps.initColdArgsNest (e := e) X.here f1 X.warmed hpf hown hin hy (f9.use hlk) (f9.use hins) hcode (f := F0 m pc ls (As.reverse ++ .ref b :: st)) rfl hlen2 rfl hdc
      exact ⟨mk, vm₁, hnamed, X.noted hW₁, hstep₁⟩
  obtain ⟨mk, vm', hnamed, X', stp⟩ := go
  obtain ⟨t, a1, b1⟩ := xAfter X' hF hl (T := T.setVm vm') hr hz ho h1 h2 hc hpl (X'.named hnamed) hlen hK hW hd kr kt
  exact ⟨t, stp t (fun acts => by rw [doInvoke_state]; exact a1), b1⟩
end XC2
end
section
/-! the heap: fields, arrays, new cells -/
def xSet (h : xH) (a : Nat) (e : va_E) : xH := (h.1, h.2.1, va_up h.2.2 a (some e))
def xNew (h : xH) (N : Nat) (e : va_E) : xH := (h.1 + 1, h.2.1 + N, va_up h.2.2 h.1 (some e))
section XH
theorem xVm {D : va_G} {cl : List vw_C} {a : Nat} {e : va_E} {H : Heap} (h : va_at D cl (a, e) H) : ∃ cell : Cell, H[a]? = some cell ∧ cell.vm = .none := by
  cases e with
  | inl x =>
    obtain ⟨cA, n, f | f | f | f | f⟩ := x
    all_goals exact ⟨_, h, rfl⟩
  | inr o =>
    obtain ⟨r, -, cell, h2, -, h3, -⟩ := h
    exact ⟨cell, h2, h3⟩
theorem xKeepS.set {D : va_G} {cl : List vw_C} {a : Nat} {e : va_E} {H H' : Heap} (h : va_at D cl (a, e) H) (ho : ∀ q : Nat, q ≠ a → H'[q]? = H[q]?) : xKeepS H H' := by
  intro q c hc hs
  by_cases hq : q = a
  · subst hq
    obtain ⟨cell, h1, h2⟩ := xVm h
    cases h1.symm.trans hc
    rw [h2] at hs
    cases hs
  · rw [ho q hq]; exact hc
theorem xKeepS.push {H H' : Heap} (ho : ∀ q : Nat, q < H.size → H'[q]? = H[q]?) : xKeepS H H' := by
  intro q c hc hs
  rw [ho q (Array.getElem?_eq_some_iff.mp hc).1]; exact hc
theorem xRep.set {G : xG} {h : xH} {H H' : Heap} {a : Nat} {e0 e : va_E} (hr : xRep G h H) (h0 : h.2.2 a = some e0) (hsz : H'.size = H.size) (ho : ∀ q : Nat, q ≠ a → H'[q]? = H[q]?) (he : va_at (gD G) xcl (a, e) H') : xRep G (xSet h a e) H' := by
  obtain ⟨r1, r2, r3, r4, ⟨r5, r6⟩, r7⟩ := hr
  have hlo := (r7 a e0 h0).1
  refine ⟨hsz.trans r1, r2, r3, r4, ⟨r5, by rw [ho _ (by omega)]; exact r6⟩, fun b e' hb => ?_⟩
  by_cases hba : b = a
  · subst hba
    rw [show (xSet h b e).2.2 b = some e from va_up_self _ _ _] at hb
    cases hb
    exact ⟨hlo, he⟩
  · rw [show (xSet h a e).2.2 b = h.2.2 b from va_up_ne _ _ hba] at hb
    exact ⟨(r7 b e' hb).1, (r7 b e' hb).2.kept (ho b hba)⟩
theorem xRep.push {G : xG} {h : xH} {H H' : Heap} {N : Nat} {e : va_E} (hr : xRep G h H) (hsz : H'.size = h.1 + 1) (ho : ∀ q : Nat, q < h.1 → H'[q]? = H[q]?) (he : va_at (gD G) xcl (h.1, e) H') (hc : h.1 + 1 ≤ gC G) (hs : h.2.1 + N ≤ gS G) : xRep G (xNew h N e) H' := by
  obtain ⟨r1, r2, r3, r4, ⟨r5, r6⟩, r7⟩ := hr
  refine ⟨hsz, hc, hs, by show gA G ≤ h.1 + 1; omega, ⟨r5, by rw [ho _ (by omega)]; exact r6⟩, fun b e' hb => ?_⟩
  by_cases hba : b = h.1
  · subst hba
    rw [show (xNew h N e).2.2 h.1 = some e from va_up_self _ _ _] at hb
    cases hb
    exact ⟨r4, he⟩
  · rw [show (xNew h N e).2.2 b = h.2.2 b from va_up_ne _ _ hba] at hb
    have h2 := (r7 b e' hb).2
    exact ⟨(r7 b e' hb).1, h2.kept (ho b (by have := h2.lt; rw [r1] at this; exact this))⟩
/-- a class of the list: its layout's words stand in the tables -/
def xCl (ci : Nat) (C : String) (T : u_T) (N : Nat) : Prop := xcl[ci]? = some (C, T, N) ∧ (∀ w ∈ u_ws C T N, w ∈ xWS) ∧ (∃ ty0 : Nat → FieldType, ∀ k, k < N → parseFieldDescriptor (T k).2.2.1 = some (ty0 k)) ∧ ∀ a, a < N → ∀ b, b < N → a ≠ b → (T a).2.1 ≠ (T b).2.1
def xFd (own : String) (index ci k : Nat) : Prop := ∃ C T N, xCl ci C T N ∧ k < N ∧ (T k).1 = C ∧ (.fieldLink own index C (T k).2.1 (T k).2.2.1 ∈ xWS ∨ ∃ host, .fieldLinkNest own index C (T k).2.1 (T k).2.2.1 host ∈ xWS)
def xPd (own : String) (index ci k : Nat) (ty : FieldType) : Prop := ∃ C T N, xCl ci C T N ∧ k < N ∧ (T k).1 = C ∧ (T k).2.2.2 = false ∧ parseFieldDescriptor (T k).2.2.1 = some ty ∧ (.fieldLink own index C (T k).2.1 (T k).2.2.1 ∈ xWS ∨ ∃ host, .fieldLinkNest own index C (T k).2.1 (T k).2.2.1 host ∈ xWS)
def xPf (own : String) (index ci k : Nat) (ty : FieldType) : Prop := ∃ T N, xCl ci own T N ∧ k < N ∧ (T k).1 = own ∧ (T k).2.2.2 = true ∧ parseFieldDescriptor (T k).2.2.1 = some ty ∧ .fieldLink own index own (T k).2.1 (T k).2.2.1 ∈ xWS
variable {G : xG} {M : xM} {d pc : Nat} {lv : List (Nat × Value)} {st : List Value} {h : xH} {Q : xR → xH → Prop} {index ci k a : Nat} {fs : List Value} {v : Value}
theorem x_getf (hd : decode M.2.1 pc = .ok (.getfield index, 3)) (hk : xFd M.1.cls index ci k) (ha : h.2.2 a = some (.inr (ci, fs))) (hv : fs[k]? = some v) (kk : EX G M d (pc + 3) lv (v :: st) h Q) : EX G M d pc lv (.ref a :: st) h Q := by
  intro p e R s m args below meth c n0 ls H locs hF hl hr hz ho h1 h2
  obtain ⟨C, T, N, ⟨hc, hin, -, -⟩, hkN, hC, hlk⟩ := hk
  obtain ⟨f1, f2, f3, f4, f5, f6, f7, f8, f9, f10, f11, f12, -⟩ := id hF
  have hown := findClass_of_methodNamed f7
  have K := kk p e R s m args below meth c n0 ls H locs hF hl hr hz ho h1 h2
  rcases hlk with hlk | ⟨host, hlk⟩
  · exact va_get f1 f2 (fun w hw => f9.use hw) hin hown f12 (hr.P ha) 0 rfl hc k hkN (f9.use hlk) (fun x hx => by rw [← hC]; exact hx) hv hd K
  · exact va_getN f1 f2 (fun w hw => f9.use hw) hin hown f12 (hr.P ha) 0 rfl hc k hkN (f9.use hlk) (fun x hx => by rw [← hC]; exact hx) hv hd K
theorem xLocs {G : xG} {locs : List Loc} {a i : Nat} (ho : ∀ q ∈ locs, gA G ≤ q.base) (ha : gA G ≤ a) : ∀ q ∈ locs ++ [(⟨a, i⟩ : Loc)], gA G ≤ q.base := by
  intro q hq
  rcases List.mem_append.mp hq with x | x
  · exact ho q x
  · rw [List.mem_singleton] at x
    rw [x]; exact ha
set_option maxHeartbeats 1000000 in
theorem x_putf {ty : FieldType} (hd : decode M.2.1 pc = .ok (.putfield index, 3)) (hk : xPd M.1.cls index ci k ty) (ha : h.2.2 a = some (.inr (ci, fs))) (hl0 : k < fs.length) (hn : narrow ty v = v) (hfit : fits ty v = true)
    (kk : EX G M d (pc + 3) lv st (xSet h a (.inr (ci, fs.set k v))) Q) : EX G M d pc lv (v :: .ref a :: st) h Q := by
  intro p e R s m args below meth c n0 ls H locs hF hl hr hz ho h1 h2
  obtain ⟨C, T, N, ⟨hc, hin, ⟨ty0, hty⟩, hnm⟩, hkN, hC, hfin, hdsc, hlk⟩ := hk
  obtain ⟨f1, f2, f3, f4, f5, f6, f7, f8, f9, f10, f11, f12, -⟩ := id hF
  have hown := findClass_of_methodNamed f7
  have hts : ∀ w ∈ xWS, w.before args s = true := fun w hw => f9.use hw
  have hap := va_apart (own := M.1.cls) hts hin ty0 hty hnm f12 hc
  have hat := (hr.2.2.2.2.2 a _ ha).2
  obtain ⟨r, r1, cell, q1, q2, q3, q4⟩ := id hat
  have hrr : r = (C, T, N) := Option.some.inj (r1.symm.trans hc)
  subst hrr
  obtain ⟨hS, hfc, kC, hkC, hkind⟩ := f12.1 ci _ hc
  obtain ⟨cf, kf, fi, f, hi, hsl⟩ := hS k hkN
  have hlay := hts _ (hin _ (u_in_lay hkN))
  unfold u_lay at hlay
  rw [if_neg (by rw [hfin]; decide)] at hlay
  have hst := (u_facts hfc hkC (u_lays hts hin hkN) hi).1
  have h6 := u_store hfc hkC hkind hlay hi hdsc hn hfit
  have hi2 : s.fieldFound? C (T k).2.1 (T k).2.2.1 = some (cf, kf, fi, f) := by rw [← hi]; rw [hC]
  have fin : ∀ H' : Heap, H'[a]? = some (cell.setSlot f.slot v) → H'.size = H.size → (∀ q, q ≠ a → H'[q]? = H[q]?) → W p (gL G) e R s m args below meth c H' (locs ++ [⟨a, f.slot⟩]) (h.1 - s.heap.size) (h.2.1 - n0) (xEnd G s below n0 Q) (F0 m (pc + 3) ls st) := by
    intro H' e1 e2 e3
    rw [hsl] at e1
    have hat2 : va_at (gD G) xcl (a, .inr (ci, fs.set k v)) H' := ⟨_, hc, t_OB.to (V := updV (vp_V fs) k v) ⟨_, e1, q2, q3, t_set q4 hap hkN v⟩ (fun j _ => vp_updV_set hl0 v j)⟩
    exact kk p e R s m args below meth c n0 ls H' _ hF hl (hr.set ha e2 e3 hat2) (hz.trans (xKeepS.set hat e3)) (xLocs ho (hr.lo ha)) h1 h2
  rcases hlk with hlk | ⟨host, hlk⟩
  · exact W.putK f1 f2 (f := f) ⟨hown, f9.use hlk, ⟨_, _, _, hi2⟩, hst⟩ (by rw [q2]; exact h6) q1 q3 (by rw [hsl]; exact k2_hasslot (q4 k hkN)) rfl rfl hd fin
  · exact va_WputK f1 f2 (f := f) hown (f9.use hlk) hi2 hst (by rw [q2]; exact h6) q1 q3 (by rw [hsl]; exact k2_hasslot (q4 k hkN)) rfl rfl hd fin
set_option maxHeartbeats 1000000 in
theorem x_putF {ty : FieldType} (hd : decode M.2.1 pc = .ok (.putfield index, 3)) (hM : M.1.name = "<init>") (hk : xPf M.1.cls index ci k ty) (ha : h.2.2 a = some (.inr (ci, fs))) (hl0 : k < fs.length) (hn : narrow ty v = v) (hfit : fits ty v = true)
    (kk : EX G M d (pc + 3) lv st (xSet h a (.inr (ci, fs.set k v))) Q) : EX G M d pc lv (v :: .ref a :: st) h Q := by
  intro p e R s m args below meth c n0 ls H locs hF hl hr hz ho h1 h2
  obtain ⟨T, N, ⟨hc, hin, ⟨ty0, hty⟩, hnm⟩, hkN, hC, hfin, hdsc, hlk⟩ := hk
  obtain ⟨f1, f2, f3, f4, f5, f6, f7, f8, f9, f10, f11, f12, -⟩ := id hF
  have hown := findClass_of_methodNamed f7
  have hin2 : meth.name = "<init>" := (name_of_methodNamed f7 f8).1.trans hM
  have hts : ∀ w ∈ xWS, w.before args s = true := fun w hw => f9.use hw
  have hap := va_apart (own := M.1.cls) hts hin ty0 hty hnm f12 hc
  have hat := (hr.2.2.2.2.2 a _ ha).2
  obtain ⟨r, r1, cell, q1, q2, q3, q4⟩ := id hat
  have hrr : r = (M.1.cls, T, N) := Option.some.inj (r1.symm.trans hc)
  subst hrr
  obtain ⟨hS, hfc, kC, hkC, hkind⟩ := f12.1 ci _ hc
  obtain ⟨cf, kf, fi, f, hi, hsl⟩ := hS k hkN
  have hlay := hts _ (hin _ (u_in_lay hkN))
  unfold u_lay at hlay
  rw [if_pos hfin] at hlay
  have hst := (u_facts hfc hkC (u_lays hts hin hkN) hi).1
  have hcf : m.cls = cf := by
    obtain ⟨_, _, c', _, _, _, -, -, hf', -, -, -, hown2, -⟩ := Cond.laysFinal_spec hlay
    have e1 : c' = cf := by have := hi.symm.trans hf'; simp at this; exact this.1.symm
    rw [hC] at hown2
    rw [← e1]; exact Option.some.inj (hown.symm.trans hown2)
  have h6 := u_fits hfc hkC hkind (Or.inr hlay) hi hdsc hn hfit
  have hi2 : s.fieldFound? M.1.cls (T k).2.1 (T k).2.2.1 = some (cf, kf, fi, f) := by rw [← hi]; rw [hC]
  refine W.putFinK f1 f2 hown (f9.use hlk) hi2 hst hcf hin2 (by rw [q2]; exact h6) q1 q3 (by rw [hsl]; exact k2_hasslot (q4 k hkN)) rfl rfl hd fun H' e1 e2 e3 => ?_
  rw [hsl] at e1
  have hat2 : va_at (gD G) xcl (a, .inr (ci, fs.set k v)) H' := ⟨_, hc, t_OB.to (V := updV (vp_V fs) k v) ⟨_, e1, q2, q3, t_set q4 hap hkN v⟩ (fun j _ => vp_updV_set hl0 v j)⟩
  exact kk p e R s m args below meth c n0 ls H' _ hF hl (hr.set ha e2 e3 hat2) (hz.trans (xKeepS.set hat e3)) (xLocs ho (hr.lo ha)) h1 h2
/-! arrays -/
variable {t0 n j : Nat} {cA : ClassId} {i : Int32}
theorem x_iald {f : Nat → Int32} (hd : decode M.2.1 pc = .ok (.iaload, 1)) (ht : (gT G)[t0]? = some (cA, .int)) (ha : h.2.2 a = some (.inl (cA, n, .inl f))) (hi : i = nI j) (hj : j < n) (hn : n < 2 ^ 31)
    (kk : EX G M d (pc + 1) lv (.int (f j) :: st) h Q) : EX G M d pc lv (.int i :: .ref a :: st) h Q := by
  subst hi
  intro p e R s m args below meth c n0 ls H locs hF hl hr hz ho h1 h2
  have K := kk p e R s m args below meth c n0 ls H locs hF hl hr hz ho h1 h2
  rw [← nI_clamp (n := j) (by omega)] at K
  exact va_iald hF.1 hF.2.1 hF.2.2.2.2.2.2.2.2.2.2.2.1 (hr.P ha) 0 t0 rfl ht (vp_in_nI hj hn) hd K
theorem x_zald {f : Nat → Int32} (hd : decode M.2.1 pc = .ok (.baload, 1)) (ht : (gT G)[t0]? = some (cA, .boolean)) (ha : h.2.2 a = some (.inl (cA, n, .inl f))) (hi : i = nI j) (hj : j < n) (hn : n < 2 ^ 31)
    (kk : EX G M d (pc + 1) lv (.int (f j) :: st) h Q) : EX G M d pc lv (.int i :: .ref a :: st) h Q := by
  subst hi
  intro p e R s m args below meth c n0 ls H locs hF hl hr hz ho h1 h2
  have K := kk p e R s m args below meth c n0 ls H locs hF hl hr hz ho h1 h2
  rw [← nI_clamp (n := j) (by omega)] at K
  exact va_zald hF.1 hF.2.1 hF.2.2.2.2.2.2.2.2.2.2.2.1 (hr.P ha) 0 t0 rfl ht (vp_in_nI hj hn) hd K
theorem x_lald {f : Nat → Int64} (hd : decode M.2.1 pc = .ok (.laload, 1)) (ht : (gT G)[t0]? = some (cA, .long)) (ha : h.2.2 a = some (.inl (cA, n, .inr (.inl f)))) (hi : i = nI j) (hj : j < n) (hn : n < 2 ^ 31)
    (kk : EX G M d (pc + 1) lv (.long (f j) :: st) h Q) : EX G M d pc lv (.int i :: .ref a :: st) h Q := by
  subst hi
  intro p e R s m args below meth c n0 ls H locs hF hl hr hz ho h1 h2
  have K := kk p e R s m args below meth c n0 ls H locs hF hl hr hz ho h1 h2
  rw [← nI_clamp (n := j) (by omega)] at K
  exact va_lald hF.1 hF.2.1 hF.2.2.2.2.2.2.2.2.2.2.2.1 (hr.P ha) 0 t0 rfl ht (vp_in_nI hj hn) hd K
theorem x_aald {C : String} {f : Nat → Option Nat} (hd : decode M.2.1 pc = .ok (.aaload, 1)) (ht : (gT G)[t0]? = some (cA, .object C)) (ha : h.2.2 a = some (.inl (cA, n, .inr (.inr (.inr (.inr f)))))) (hi : i = nI j) (hj : j < n) (hn : n < 2 ^ 31)
    (kk : EX G M d (pc + 1) lv (va_rf (f j) :: st) h Q) : EX G M d pc lv (.int i :: .ref a :: st) h Q := by
  subst hi
  intro p e R s m args below meth c n0 ls H locs hF hl hr hz ho h1 h2
  have K := kk p e R s m args below meth c n0 ls H locs hF hl hr hz ho h1 h2
  rw [← nI_clamp (n := j) (by omega)] at K
  exact va_aldq hF.1 hF.2.1 hF.2.2.2.2.2.2.2.2.2.2.2.1 (hr.P ha) 0 t0 rfl ht (vp_in_nI hj hn) hd K
theorem x_alen {x : vp_A} {ty : FieldType} (hd : decode M.2.1 pc = .ok (.arraylength, 1)) (ht : (gT G)[t0]? = some (cA, ty)) (ha : h.2.2 a = some (.inl (cA, x))) (kk : EX G M d (pc + 1) lv (.int (nI x.1) :: st) h Q) : EX G M d pc lv (.ref a :: st) h Q := by
  intro p e R s m args below meth c n0 ls H locs hF hl hr hz ho h1 h2
  exact va_alen hF.1 hF.2.1 hF.2.2.2.2.2.2.2.2.2.2.2.1 (hr.P ha) 0 t0 rfl ht rfl hd (kk p e R s m args below meth c n0 ls H locs hF hl hr hz ho h1 h2)
theorem x_iast {f : Nat → Int32} {x : Int32} (hd : decode M.2.1 pc = .ok (.iastore, 1)) (ht : (gT G)[t0]? = some (cA, .int)) (ha : h.2.2 a = some (.inl (cA, n, .inl f))) (hi : i = nI j) (hj : j < n) (hn : n < 2 ^ 31)
    (kk : EX G M d (pc + 1) lv st (xSet h a (.inl (cA, n, .inl (va_up f j x)))) Q) : EX G M d pc lv (.int x :: .int i :: .ref a :: st) h Q := by
  subst hi
  intro p e R s m args below meth c n0 ls H locs hF hl hr hz ho h1 h2
  have hin := vp_in_nI hj hn
  have hat := (hr.2.2.2.2.2 a _ ha).2
  have hcl := nI_clamp (n := j) (by omega)
  refine W.iast hF.1 hF.2.1 hat ((hF.2.2.2.2.2.2.2.2.2.2.2.1.2 t0 _ ht).1 n (fun j => .int (f j))) (fun q => by cases q) (by show ¬ (_ ∨ (arrV _ _ _).slots.size ≤ _); rw [arrV_size]; exact hin) rfl rfl hd fun H1 e z oq => ?_
  have hat2 : va_at (gD G) xcl (a, .inl (cA, n, .inl (va_up f j x))) H1 := by
    show H1[a]? = some (vp_cell _ _)
    rw [e, vp_cell_i, vp_cell_i, arrV_store, hcl]
    congr 2
    funext q
    by_cases hq : q = j
    · subst hq; simp [updV, va_up]
    · simp [updV, va_up, hq]
  exact kk p _ R s m args below meth c n0 ls H1 _ hF hl (hr.set ha z oq hat2) (hz.trans (xKeepS.set hat oq)) (xLocs ho (hr.lo ha)) h1 h2
theorem x_zast {f : Nat → Int32} {x : Int32} (hd : decode M.2.1 pc = .ok (.bastore, 1)) (ht : (gT G)[t0]? = some (cA, .boolean)) (ha : h.2.2 a = some (.inl (cA, n, .inl f))) (hi : i = nI j) (hj : j < n) (hn : n < 2 ^ 31) (hx : narrow .boolean (.int x) = .int x)
    (kk : EX G M d (pc + 1) lv st (xSet h a (.inl (cA, n, .inl (va_up f j x)))) Q) : EX G M d pc lv (.int x :: .int i :: .ref a :: st) h Q := by
  subst hi
  intro p e R s m args below meth c n0 ls H locs hF hl hr hz ho h1 h2
  have hin := vp_in_nI hj hn
  have hat := (hr.2.2.2.2.2 a _ ha).2
  have hcl := nI_clamp (n := j) (by omega)
  refine W.zast hF.1 hF.2.1 hat ((hF.2.2.2.2.2.2.2.2.2.2.2.1.2 t0 _ ht).1 n (fun j => .int (f j))) (fun q => by cases q) (by show ¬ (_ ∨ (arrV _ _ _).slots.size ≤ _); rw [arrV_size]; exact hin) rfl rfl hd fun H1 e z oq => ?_
  have hat2 : va_at (gD G) xcl (a, .inl (cA, n, .inl (va_up f j x))) H1 := by
    show H1[a]? = some (vp_cell _ _)
    rw [e, hx, vp_cell_i, vp_cell_i, arrV_store, hcl]
    congr 2
    funext q
    by_cases hq : q = j
    · subst hq; simp [updV, va_up]
    · simp [updV, va_up, hq]
  exact kk p _ R s m args below meth c n0 ls H1 _ hF hl (hr.set ha z oq hat2) (hz.trans (xKeepS.set hat oq)) (xLocs ho (hr.lo ha)) h1 h2
theorem x_last {f : Nat → Int64} {x : Int64} (hd : decode M.2.1 pc = .ok (.lastore, 1)) (ht : (gT G)[t0]? = some (cA, .long)) (ha : h.2.2 a = some (.inl (cA, n, .inr (.inl f)))) (hi : i = nI j) (hj : j < n) (hn : n < 2 ^ 31)
    (kk : EX G M d (pc + 1) lv st (xSet h a (.inl (cA, n, .inr (.inl (va_up f j x))))) Q) : EX G M d pc lv (.long x :: .int i :: .ref a :: st) h Q := by
  subst hi
  intro p e R s m args below meth c n0 ls H locs hF hl hr hz ho h1 h2
  have hin := vp_in_nI hj hn
  have hat := (hr.2.2.2.2.2 a _ ha).2
  have hcl := nI_clamp (n := j) (by omega)
  refine W.last hF.1 hF.2.1 hat ((hF.2.2.2.2.2.2.2.2.2.2.2.1.2 t0 _ ht).1 n (fun j => .long (f j))) (fun q => by cases q) (by show ¬ (_ ∨ (arrV _ _ _).slots.size ≤ _); rw [arrV_size]; exact hin) rfl rfl hd fun H1 e z oq => ?_
  have hat2 : va_at (gD G) xcl (a, .inl (cA, n, .inr (.inl (va_up f j x)))) H1 := by
    show H1[a]? = some (vp_cell _ _)
    rw [e, vp_cell_l, vp_cell_l, arrV_store, hcl]
    congr 2
    funext q
    by_cases hq : q = j
    · subst hq; simp [updV, va_up]
    · simp [updV, va_up, hq]
  exact kk p _ R s m args below meth c n0 ls H1 _ hF hl (hr.set ha z oq hat2) (hz.trans (xKeepS.set hat oq)) (xLocs ho (hr.lo ha)) h1 h2
theorem x_aast {r : vw_C} {vs : List Value} {w : Nat} {f : Nat → Option Nat} (hd : decode M.2.1 pc = .ok (.aastore, 1)) (ht : (gT G)[t0]? = some (cA, .object r.1)) (ha : h.2.2 a = some (.inl (cA, n, .inr (.inr (.inr (.inr f)))))) (hw : h.2.2 w = some (.inr (ci, vs))) (hc : xcl[ci]? = some r) (hi : i = nI j) (hj : j < n) (hn : n < 2 ^ 31)
    (kk : EX G M d (pc + 1) lv st (xSet h a (.inl (cA, n, .inr (.inr (.inr (.inr (va_up f j (some w)))))))) Q) : EX G M d pc lv (.ref w :: .int i :: .ref a :: st) h Q := by
  subst hi
  intro p e R s m args below meth c n0 ls H locs hF hl hr hz ho h1 h2
  have hin := vp_in_nI hj hn
  have hK := hF.2.2.2.2.2.2.2.2.2.2.2.1
  have hat := (hr.2.2.2.2.2 a _ ha).2
  have hcl := nI_clamp (n := j) (by omega)
  obtain ⟨r', hr', cellV, g1, g2, g3, -⟩ := (hr.2.2.2.2.2 w _ hw).2
  have hcls := (hK.1 ci r hc).2
  obtain ⟨kA, comp, k1, k2, k3, -⟩ := (hK.2 t0 _ ht).2
  have hcomp : comp = (gD G).1 ci := Option.some.inj (k3.symm.trans hcls.1)
  subst hcomp
  obtain ⟨kC, hkC, -⟩ := hcls.2
  have hlt : (nI j).toNatClampNeg < n := Nat.not_le.mp fun q => hin (Or.inr q)
  refine W.aast hF.1 hF.2.1 hat (fun q h => by cases h) (fun h => by cases h) k1 k2 rfl hkC ⟨fun q => hin (Or.inl q), by show _ < (arrV _ _ _).slots.size; rw [arrV_size]; exact hlt⟩ g1 (fun q h => by rw [g3] at h; cases h) (by rw [g2]; exact hkC) (by rw [g2]; exact va_assign hcls) rfl rfl hd fun H1 e z oq => ?_
  have hat2 : va_at (gD G) xcl (a, .inl (cA, n, .inr (.inr (.inr (.inr (va_up f j (some w))))))) H1 := by
    show H1[a]? = some (vp_cell _ _)
    rw [e, vp_cell_q, vp_cell_q, arrV_store, hcl]
    congr 2
    funext q
    by_cases hq : q = j
    · subst hq; simp [updV, va_up, va_rf]
    · simp [updV, va_up, hq]
  exact kk p _ R s m args below meth c n0 ls H1 _ hF hl (hr.set ha z oq hat2) (hz.trans (xKeepS.set hat oq)) (xLocs ho (hr.lo ha)) h1 h2
/-! new cells -/
theorem xCs {h1 s1 N : Nat} (h : s1 ≤ h1) : h1 - s1 + N = h1 + N - s1 := by omega
theorem x_new {C : String} {T : u_T} {N : Nat} {ty : Nat → FieldType} (hd : decode M.2.1 pc = .ok (.new index, 3)) (hk : xCl ci C T N) (hty : ∀ k, k < N → parseFieldDescriptor (T k).2.2.1 = some (ty k)) (hcl : .classLink M.1.cls index C ∈ xWS) (hin : .instantiable C N ∈ xWS) (hini : .initialized C ∈ xWS)
    (hfs : ∀ j, j < N → defaultValue (ty j) = vp_V fs j) (hc : h.1 + 1 ≤ gC G) (hs : h.2.1 + N ≤ gS G) (kk : EX G M d (pc + 3) lv (.ref h.1 :: st) (xNew h N (.inr (ci, fs))) Q) : EX G M d pc lv st h Q := by
  intro p e R s m args below meth c n0 ls H locs hF hl hr hz ho h1 h2
  obtain ⟨hcc, hws, -, -⟩ := hk
  obtain ⟨f1, f2, f3, f4, f5, f6, f7, f8, f9, f10, f11, f12, f13, f14, f15, f16⟩ := id hF
  have hown := findClass_of_methodNamed f7
  have hKn := f12.1 ci _ hcc
  refine W.newcK f1 f2 hown (f9.use hcl) (f9.use hin) (f9.use hini) rfl hd (by omega) (by omega) hKn.2.1 hr.1 fun H1 kC hkC e1 z1 o1 => ?_
  rw [xCs h1, xCs h2]
  have hat : va_at (gD G) xcl (h.1, .inr (ci, fs)) H1 := ⟨_, hcc, (u_born ty (fun w hw => f9.use (args := args) hw) hws hKn hkC e1 hty).to hfs⟩
  exact kk p e R s m args below meth c n0 ls H1 locs hF hl (hr.push z1 o1 hat hc hs) (hz.trans (xKeepS.push fun q hq => o1 q (by rw [hr.1] at hq; exact hq))) ho (by show _ ≤ h.1 + 1; omega) (by show _ ≤ h.2.1 + N; omega)
theorem x_newa {atype : ArrayType} {ty : FieldType} {N : Nat} {a0 : vp_A} {w : Int32} (hd : decode M.2.1 pc = .ok (.newarray atype, 2)) (hty : newarray.typeOf atype = ty) (hpr : ∀ C, ty ≠ .object C) (ht : (gT G)[t0]? = some (cA, ty)) (hw : .arrayClass ty ∈ xWS) (hi : w = nI N) (hN : N < 2 ^ 20) (ha : ∀ cA : ClassId, vp_cell cA a0 = arrV cA N (fun _ => defaultValue ty)) (hby : componentBytes ty ≤ 8)
    (hc : h.1 + 1 ≤ gC G) (hs : h.2.1 + N ≤ gS G) (kk : EX G M d (pc + 2) lv (.ref h.1 :: st) (xNew h N (.inl (cA, a0))) Q) : EX G M d pc lv (.int w :: st) h Q := by
  subst hi
  subst hty
  intro p e R s m args below meth c n0 ls H locs hF hl hr hz ho h1 h2
  obtain ⟨f1, f2, f3, f4, f5, f6, f7, f8, f9, f10, f11, f12, f13, f14, f15, f16⟩ := id hF
  refine va_newaK f1 f2 (f9.use hw) rfl hd rfl (nI_pos (by omega)) (nI_clamp (by omega)) (by have := Nat.mul_le_mul_left N hby; omega) (by omega) (by omega) hr.1 fun H1 cA' e1 z1 o1 hAr hNm => ?_
  have hcA : cA' = cA := by
    have h3 := (f12.2 t0 _ ht).2
    have h4 : s.vm.findClass ("[" ++ (newarray.typeOf atype).toString) = some cA := by
      cases atype <;> exact h3
    exact Option.some.inj (hNm.symm.trans h4)
  subst hcA
  rw [xCs h1, xCs h2]
  have hat : va_at (gD G) xcl (h.1, .inl (cA', a0)) H1 := by
    show H1[h.1]? = some (vp_cell _ _)
    rw [ha]; exact e1
  exact kk p e R s m args below meth c n0 ls H1 locs hF hl (hr.push z1 o1 hat hc hs) (hz.trans (xKeepS.push fun q hq => o1 q (by rw [hr.1] at hq; exact hq))) ho (by show _ ≤ h.1 + 1; omega) (by show _ ≤ h.2.1 + N; omega)
theorem x_anew {C : String} {N : Nat} {w : Int32} (hd : decode M.2.1 pc = .ok (.anewarray index, 3)) (ht : (gT G)[t0]? = some (cA, .object C)) (hcl : .classLink M.1.cls index C ∈ xWS) (hw : .arrayOver (.object C) ∈ xWS) (hi : w = nI N) (hN : N < 2 ^ 20)
    (hc : h.1 + 1 ≤ gC G) (hs : h.2.1 + N ≤ gS G) (kk : EX G M d (pc + 3) lv (.ref h.1 :: st) (xNew h N (.inl (cA, N, .inr (.inr (.inr (.inr fun _ => none)))))) Q) : EX G M d pc lv (.int w :: st) h Q := by
  subst hi
  intro p e R s m args below meth c n0 ls H locs hF hl hr hz ho h1 h2
  obtain ⟨f1, f2, f3, f4, f5, f6, f7, f8, f9, f10, f11, f12, f13, f14, f15, f16⟩ := id hF
  have hown := findClass_of_methodNamed f7
  have hcl' := nI_clamp (n := N) (by omega)
  refine W.anew f1 f2 hown (f9.use hcl) (f9.use hw) rfl hd rfl (nI_pos (by omega)) (by rw [hcl']; omega) (by omega) (by rw [hcl']; omega) fun cA' kA comp g1 g2 g3 g4 => ?_
  obtain ⟨kA2, comp2, -, -, -, h4⟩ := (f12.2 t0 _ ht).2
  have hcA : cA' = cA := Option.some.inj (g1.symm.trans h4)
  subst hcA
  rw [hcl', xCs h1, xCs h2]
  generalize hH1 : H.push ({ cls := cA', slots := Array.replicate N .null, vm := .none } : Cell) = H1
  have z1 : H1.size = h.1 + 1 := by rw [← hH1, Array.size_push, hr.1]
  have e1 : H1[h.1]? = some (arrV cA' N (fun _ => .null)) := by rw [← hH1, ← hr.1, Array.getElem?_push_size, ← arrV_new]
  have o1 : ∀ q : Nat, q < h.1 → H1[q]? = H[q]? := fun q hq => by rw [← hH1, Array.getElem?_push, if_neg (by rw [hr.1]; omega)]
  have hat : va_at (gD G) xcl (h.1, .inl (cA', N, .inr (.inr (.inr (.inr fun _ => none))))) H1 := by
    show H1[h.1]? = some (vp_cell _ _)
    rw [vp_cell_q]; exact e1
  have K := kk p e R s m args below meth c n0 ls H1 locs hF hl (hr.push z1 o1 hat hc hs) (hz.trans (xKeepS.push fun q hq => o1 q (by rw [hr.1] at hq; exact hq))) ho (by show _ ≤ h.1 + 1; omega) (by show _ ≤ h.2.1 + N; omega)
  rw [hr.1]
  exact K
/-! what the JDK gives -/
theorem x_objInit (hd : decode M.2.1 pc = .ok (.invokespecial index, 3)) (hlk : .methodLink M.1.cls index Lib.objectInit ∈ xWS) (hi : .instanceMethod Lib.objectInit ∈ xWS) (hc : .code Lib.objectInit ⟨#[0xb1]⟩ 1 none ∈ xWS) (hW : (st.map fun v => v.category).sum ≤ 64)
    (kk : EX G M d (pc + 3) lv st h Q) : EX G M d pc lv (.ref a :: st) h Q := by
  intro p e R s m args below meth c n0 ls H locs hF hl hr hz ho h1 h2
  obtain ⟨f1, f2, f3, f4, f5, f6, f7, f8, f9, f10, f11, f12, f13, f14, f15, f16⟩ := id hF
  exact W.objInit f1 f2 (findClass_of_methodNamed f7) (f9.use hlk) (f9.use hi) (f9.use hc) rfl (hl.1.trans f3.symm) rfl hd (by omega) (by show 2 * 0 + _ + 12 ≤ _; omega) (kk p e R s m args below meth c n0 ls H locs hF hl hr hz ho h1 h2)
theorem x_max {x y : Int32} (hd : decode M.2.1 pc = .ok (.invokestatic index, 3)) (hlk : .methodLink M.1.cls index Lib.Math.max.name ∈ xWS) (hi : .static Lib.Math.max.name ∈ xWS) (hn : .initialized "java/lang/Math" ∈ xWS) (hc : .code Lib.Math.max.name Lib.Math.max.code 2 (some .int) ∈ xWS) (hW : (st.map fun v => v.category).sum ≤ 64)
    (kk : EX G M d (pc + 3) lv (.int (if x < y then y else x) :: st) h Q) : EX G M d pc lv (.int y :: .int x :: st) h Q := by
  intro p e R s m args below meth c n0 ls H locs hF hl hr hz ho h1 h2
  obtain ⟨f1, f2, f3, f4, f5, f6, f7, f8, f9, f10, f11, f12, f13, f14, f15, f16⟩ := id hF
  have hb1 := hr.2.1
  have hb2 := hr.2.2.1
  exact va_mmax f1 f2 (f3.trans hl.1.symm) (findClass_of_methodNamed f7) (f9.use hlk) (f9.use hi) (f9.use hn) (f9.use hc) (by omega) (by omega) (by omega) (by omega) hd (kk p e R s m args below meth c n0 ls H locs hF hl hr hz ho h1 h2)
theorem x_min {x y : Int32} (hd : decode M.2.1 pc = .ok (.invokestatic index, 3)) (hlk : .methodLink M.1.cls index Lib.Math.min.name ∈ xWS) (hi : .static Lib.Math.min.name ∈ xWS) (hn : .initialized "java/lang/Math" ∈ xWS) (hc : .code Lib.Math.min.name Lib.Math.min.code 2 (some .int) ∈ xWS) (hW : (st.map fun v => v.category).sum ≤ 64)
    (kk : EX G M d (pc + 3) lv (.int (if y < x then y else x) :: st) h Q) : EX G M d pc lv (.int y :: .int x :: st) h Q := by
  intro p e R s m args below meth c n0 ls H locs hF hl hr hz ho h1 h2
  obtain ⟨f1, f2, f3, f4, f5, f6, f7, f8, f9, f10, f11, f12, f13, f14, f15, f16⟩ := id hF
  have hb1 := hr.2.1
  have hb2 := hr.2.2.1
  exact va_mmin f1 f2 (f3.trans hl.1.symm) (findClass_of_methodNamed f7) (f9.use hlk) (f9.use hi) (f9.use hn) (f9.use hc) (by omega) (by omega) (by omega) (by omega) hd (kk p e R s m args below meth c n0 ls H locs hF hl hr hz ho h1 h2)
end XH
end
section
/-! 'throw new E()' -/
section XT
variable {p : Program} {l : Launch} {e : Env} {R : Room} {s : State} {m : MethodId} {args : Array Value} {below : List Frame} {meth : Method} {c : Code} {T : State} {locs : List Loc} {cells slots : Nat}
/-- the walk taken up anew, as if the invocation began where it stands -/
theorem xRebase (X : Stand p l e R s m args below meth c T locs cells slots) {k n : Nat} (hk : cells + k ≤ R.cells) (hn : slots + n ≤ R.slots) :
    Stand p l e { frames := R.frames, locals := R.locals, cells := k, slots := n } (T.setFrames (.invoking m args :: below)) m args below meth c T [] 0 0 := by
  obtain ⟨g0, hfr⟩ := X.frames_eq
  have hcur : T.cur < T.threads.size := State.cur_lt_of_frames hfr
  have hF : (T.setFrames (.invoking m args :: below)).frames = .invoking m args :: below := State.frames_setFrames _ hcur
  have heq : (T.setFrames (.invoking m args :: below)).setFrames T.frames = T := by
    rw [State.setFrames_setFrames]
    obtain ⟨th, hth, -⟩ := State.frames_cons hfr
    exact State.setFrames_self hth
  obtain ⟨t, ht, -⟩ := State.frames_cons hF
  have hcur' : (T.setFrames (.invoking m args :: below)).cur < (T.setFrames (.invoking m args :: below)).threads.size := State.cur_lt_of_frames hF
  refine ⟨X.admits, X.cas, X.clock, hF, ?_, ?_, X.method', X.code, X.here, X.tail, State.WarmedH.refl _, by rw [State.stackLimits_setFrames], by rw [State.stackBytes_setFrames], ?_⟩
  · have h0 := X.room
    obtain ⟨r1, r2, r3, r4⟩ := State.hasRoom_stack h0
    have r5 := State.hasRoom_real h0
    have hr := h0
    simp only [State.hasRoom, Bool.and_eq_true, decide_eq_true_eq] at hr
    rw [State.localsInUse_invoking X.frames X.method X.code] at r3 r4 r5
    rw [X.frames, List.length_cons] at r1 r2
    have hU : (T.setFrames (.invoking m args :: below)).localsInUse = stackWeight below + vmFrameWords + (c.maxLocals + 11) := State.localsInUse_invoking hF X.method' X.code
    have h1 := X.heapSize
    have h2 := X.used
    simp only [State.hasRoom, Bool.and_eq_true, decide_eq_true_eq, hF, hU, List.length_cons, State.stackLimits_setFrames, State.stackBytes_setFrames, X.limits, X.bytes]
    refine ⟨⟨⟨⟨by omega, by omega, by omega, by omega, by omega, hr.1.1.1.2.2.2.2.2⟩, ?_⟩, ?_⟩, X.book⟩
    · have := hr.1.1.2
      show T.heap.size + k ≤ e.platform.maxCells
      omega
    · have := hr.1.2
      show T.slotsUsed + n ≤ e.platform.maxSlots
      omega
  · have hh := X.hears
    have hal := X.warmed.alike
    cases below with
    | nil =>
      simp only [State.hears] at hh ⊢
      show (T.vm.method? m).any _ = true
      rw [hal.method?]; exact hh
    | cons f r =>
      cases f with
      | java g =>
        simp only [State.hears] at hh ⊢
        rw [State.code?_eq] at hh ⊢
        show (((T.vm.method? g.method).bind (·.code)).bind _).isSome = true
        rw [hal.method?]; exact hh
      | native _ => rfl
      | proc _ => rfl
      | _ =>
        simp only [State.hears] at hh ⊢
        show (T.vm.method? m).any _ = true
        rw [hal.method?]; exact hh
  · have h := (State.sameButNew.refl (T.setFrames (.invoking m args :: below)) ht).setFrames T.frames hcur'
    rw [heq] at h
    exact h
/-- nothing old has moved -/
theorem xOld {U : State} {k n : Nat} (h : s.sameButNew U [] k n) : ∀ q : Nat, q < s.heap.size → U.heap[q]? = s.heap[q]? := by
  intro q hq
  have hc : s.heap[q]? = some s.heap[q] := Array.getElem?_eq_getElem hq
  obtain ⟨c', h1, h2, h3, h4⟩ := h.2.2.2.2.2 q _ hc
  rw [h1, hc]
  congr 1
  rw [h2]
  have : c'.slots = (s.heap[q]).slots := by
    apply Array.ext h3
    intro i hi1 hi2
    have := h4 i (by simp)
    rw [Array.getElem?_eq_getElem hi1, Array.getElem?_eq_getElem hi2] at this
    exact Option.some.inj this
  rw [this]
end XT
section XT2
variable {G : xG} {M : xM} {d pc : Nat} {lv : List (Nat × Value)} {st : List Value} {h : xH} {Q : xR → xH → Prop}
/-- what 'throw new E()' needs of the tables -/
def xTn (own : String) (ik ic ci : Nat) : Prop := ∃ (E : String) (names : List String) (T0 : u_T), xcl[ci]? = some (E, T0, 0) ∧ Bundle.fit E = true ∧ (∀ n ∈ names, Bundle.fit n = true) ∧ names.length ≤ 4 ∧ .classLink own ik E ∈ xWS ∧ .initialized E ∈ xWS ∧ ∀ w ∈ Bundle.ownAtoms0 own ic E names, w ∈ xWS ∨ w ∈ xSW
set_option maxHeartbeats 2000000 in
theorem x_throw {ik ic ci : Nat} (d0 : decode M.2.1 pc = .ok (.new ik, 3)) (d3 : decode M.2.1 (pc + 3) = .ok (.dup, 1)) (d4 : decode M.2.1 (pc + 4) = .ok (.invokespecial ic, 3)) (d7 : decode M.2.1 (pc + 7) = .ok (.athrow, 1)) (hk : xTn M.1.cls ik ic ci) (hno : M.2.2.2.2 = []) (hL : (gL G).stackTraces = false)
    (hc : h.1 + 1 ≤ gC G) (hs : h.2.1 + 6 ≤ gS G) (hW : (st.map fun v => v.category).sum ≤ 64) (hq : Q (.inr h.1) (xNew h 6 (.inr (ci, [])))) : EX G M d pc lv st h Q := by
  intro p e R s m args below meth c n0 ls H locs hF hl hr hz ho h1 h2 T hT X
  subst hT
  obtain ⟨E, names, T0, hcl, hfE, hfn, hnl, hck, hci, hat⟩ := hk
  obtain ⟨f1, f2, f3, f4, f5, f6, f7, f8, f9, f10, f11, f12, f13, f14, f15, f16⟩ := id hF
  have hlocks : meth.locks = false := f5
  have hex := f6
  rw [hno] at hex
  have hex : c.exceptionTable.toList = [] := List.map_eq_nil_iff.mp hex
  have hszT : T.heap.size = h.1 := hr.1
  have htr : e.platform.stackTraces = false := (show e.platform.stackTraces = (gL G).stackTraces by rw [X.admits.platform]).trans hL
  have Y := xRebase X (k := 1) (n := 6) (by omega) (by omega)
  obtain ⟨s', hs'⟩ : ∃ z, z = T.setFrames (.invoking m args :: below) := ⟨_, rfl⟩
  rw [← hs'] at Y
  have hvm : s'.vm = T.vm := by rw [hs']; rfl
  have hhp : s'.heap = T.heap := by rw [hs']; rfl
  have hWs : s.WarmedH s'.vm := by rw [hvm]; exact X.warmed
  have w' : xWd s' := f9.at hWs
  have sd' : xSd s' := xSd.at f10 hWs (by rw [hhp]; exact hz)
  have K' := va_K.moved hWs.alike f12
  have hown' : s'.vm.findClass M.1.cls = some m.cls := by rw [hWs.alike.findClass]; exact findClass_of_methodNamed f7
  have hwords : ∀ w ∈ Bundle.ownAtoms0 M.1.cls ic E names, w.before args s' = true := fun w hw => by
    rcases hat w hw with a | a
    · exact w'.use a
    · exact xSd.use sd' a
  have hins : (Cond.instantiable E 6).before args s' = true := hwords _ (by simp [Bundle.ownAtoms0])
  obtain ⟨vm1, cX, kX, hfX, hkX, -, -, X1, st1⟩ := Y.newCold f1 (own := M.1.cls) (C := E) (index := ik) (n := 6) hown' (w'.use hck) hins (w'.use hci) (g := F0 m pc ls st) rfl (by rw [f2]; exact d0) (Nat.le_refl _) (Nat.le_refl _)
  generalize hT1 : (T.setVm vm1).pushCell { cls := cX, slots := kX.instanceTypes.map defaultValue, vm := .none } = T1 at X1 st1
  have hcellA : T1.heap[T.heap.size]? = some (freshCell cX kX) := by rw [← hT1]; exact State.heap_pushCell_size _ _
  have d3' : decode c.code (pc + 3) = .ok (.dup, 1) := by rw [f2]; exact d3
  obtain ⟨U, hst, hrun, hend, hWU, hsame, ce, hce, hoc⟩ := X1.ctorThrow0 f1 htr (own := M.1.cls) (cls := E) (names := names) (ic := ic) hown' hfE hfn hwords (fun x hx => nomatch hx) hfX hkX hcellA (by rw [hhp]; exact Nat.le_refl _)
    (g := F0 m (pc + 4) ls (.ref T.heap.size :: .ref T.heap.size :: st)) rfl (hl.1.trans f3.symm) rfl rfl (rest := st) rfl (by rw [f2]; exact d4) (by rw [f2]; exact d7) (fun x hx => by rw [hex] at hx; cases hx) (by show names.length + 3 < R.frames; omega)
    (by show 2 * 0 + (1 + (st.map fun v => v.category).sum) + _ ≤ R.locals; omega)
  have hold := xOld (s := s') (U := ({ U with vm := s'.vm } : State)) hsame
  have hold2 : ∀ q : Nat, q < T.heap.size → U.heap[q]? = T.heap[q]? := fun q hq' => by rw [← hhp]; exact hold q (by rw [hhp]; exact hq')
  have hsz : U.heap.size = h.1 + 1 := by
    have a1 : U.heap.size ≤ s'.heap.size + 1 := hsame.2.2.1
    have a2 : T.heap.size < U.heap.size := (Array.getElem?_eq_some_iff.mp hce).1
    rw [hhp] at a1
    omega
  have hcid : ce.cls = (gD G).1 ci := by
    have a1 := (K'.1 ci _ hcl).2.1
    exact Option.some.inj (hoc.cls.symm.trans a1)
  have hat2 : va_at (gD G) xcl (h.1, .inr (ci, [])) U.heap := ⟨_, hcl, ce, by rw [← hszT]; exact hce, hcid, hoc.vm, fun k hk => absurd hk (Nat.not_lt_zero k)⟩
  have hrep : xRep G (xNew h 6 (.inr (ci, []))) U.heap := hr.push hsz (fun q hq' => hold2 q (by rw [hszT]; exact hq')) hat2 hc hs
  have hB : T.sameButNew (U.setVm T.vm) [] 1 6 := by
    obtain ⟨b1, b2, b3, b4, b5, b6⟩ := hsame
    rw [hs'] at b1 b2 b3 b4 b5 b6
    refine ⟨?_, b2, b3, b4, b5, b6⟩
    have : (U.setVm T.vm) = ({ (T.setFrames (.invoking m args :: below)).setFrames (U.setVm T.vm).frames with heap := (U.setVm T.vm).heap, slotsUsed := (U.setVm T.vm).slotsUsed } : State) := b1
    rw [State.setFrames_setFrames] at this
    exact this
  have hsameS := X.same.trans (hB.setVm s.vm)
  rw [List.append_nil, xCs h1, xCs h2] at hsameS
  have hWfin : s.WarmedH U.vm := by
    rw [hs'] at hWU
    exact State.WarmedH.trans X.warmed hWU
  refine ⟨U, st1 _ ?_, .inr h.1, xNew h 6 (.inr (ci, [])), locs, hq, hrep, hz.trans (xKeepS.push hold2), hrun, by rw [← hszT]; exact hend, hWfin, hsameS, ho, by show _ ≤ h.1 + 1; omega, by show _ ≤ h.2.1 + 6; omega⟩
  show Steps p.tables e below (T1.setTop { method := m, pc := pc + 3, locals := ls, stack := .ref T.heap.size :: st, locked := none }) _
  jvm_step X1.here [X1.here.top, f1, d3', Value.category]
  exact hst
end XT2
end
