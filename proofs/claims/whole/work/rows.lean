section
-- ===== PART A: goes FIRST, ahead of the names: the tables' words, and 'selects' of the private methods out of them =====
/-- a private method of a class that the tables say can be made, by its rows of tables_1 -/
def lw_okq (q : MethodName × Nat) : Prop := (q.1.cls ≠ "java/lang/invoke/MethodHandle" ∧ q.1.cls ≠ "java/lang/invoke/VarHandle") ∧ Cond.instantiable q.1.cls q.2 ∈ tables_1 ∧ Cond.privateMethod q.1 ∈ tables_1 ∧ Cond.instanceMethod q.1 ∈ tables_1
theorem lw_p0 : lw_okq (⟨"GlassHall", "unplannedArea", "()J"⟩, 11) := ⟨⟨by decide +kernel, by decide +kernel⟩, List.mem_of_getElem? (i := 21) (by decide +kernel), List.mem_of_getElem? (i := 306) (by decide +kernel), List.mem_of_getElem? (i := 307) (by decide +kernel)⟩
theorem lw_p1 : lw_okq (⟨"GlassHall", "waitingArea", "()J"⟩, 11) := ⟨⟨by decide +kernel, by decide +kernel⟩, List.mem_of_getElem? (i := 21) (by decide +kernel), List.mem_of_getElem? (i := 319) (by decide +kernel), List.mem_of_getElem? (i := 320) (by decide +kernel)⟩
theorem lw_p2 : lw_okq (⟨"GlassHall", "countSheets", "(Z)I"⟩, 11) := ⟨⟨by decide +kernel, by decide +kernel⟩, List.mem_of_getElem? (i := 21) (by decide +kernel), List.mem_of_getElem? (i := 335) (by decide +kernel), List.mem_of_getElem? (i := 336) (by decide +kernel)⟩
theorem lw_p3 : lw_okq (⟨"java/lang/Throwable", "fillInStackTrace", "(I)Ljava/lang/Throwable;"⟩, 6) := ⟨⟨by decide +kernel, by decide +kernel⟩, List.mem_of_getElem? (i := 390) (by decide +kernel), List.mem_of_getElem? (i := 388) (by decide +kernel), List.mem_of_getElem? (i := 389) (by decide +kernel)⟩
theorem lw_p4 : lw_okq (⟨"GlassHall", "findFreeSlot", "()LGlassHall$Sheet;"⟩, 11) := ⟨⟨by decide +kernel, by decide +kernel⟩, List.mem_of_getElem? (i := 21) (by decide +kernel), List.mem_of_getElem? (i := 415) (by decide +kernel), List.mem_of_getElem? (i := 416) (by decide +kernel)⟩
theorem lw_p5 : lw_okq (⟨"GlassHall", "bringIn", "(LGlassHall$Sheet;)I"⟩, 11) := ⟨⟨by decide +kernel, by decide +kernel⟩, List.mem_of_getElem? (i := 21) (by decide +kernel), List.mem_of_getElem? (i := 438) (by decide +kernel), List.mem_of_getElem? (i := 439) (by decide +kernel)⟩
theorem lw_p6 : lw_okq (⟨"GlassHall", "findSheet", "(I)LGlassHall$Sheet;"⟩, 11) := ⟨⟨by decide +kernel, by decide +kernel⟩, List.mem_of_getElem? (i := 21) (by decide +kernel), List.mem_of_getElem? (i := 450) (by decide +kernel), List.mem_of_getElem? (i := 451) (by decide +kernel)⟩
theorem lw_p7 : lw_okq (⟨"GlassHall$Strips", "stackColumn", "(LGlassHall$Glass;)I"⟩, 7) := ⟨⟨by decide +kernel, by decide +kernel⟩, List.mem_of_getElem? (i := 144) (by decide +kernel), List.mem_of_getElem? (i := 543) (by decide +kernel), List.mem_of_getElem? (i := 544) (by decide +kernel)⟩
theorem lw_p8 : lw_okq (⟨"GlassHall$Strips", "takeFirst", "(LGlassHall$Glass;)Z"⟩, 7) := ⟨⟨by decide +kernel, by decide +kernel⟩, List.mem_of_getElem? (i := 144) (by decide +kernel), List.mem_of_getElem? (i := 547) (by decide +kernel), List.mem_of_getElem? (i := 548) (by decide +kernel)⟩
theorem lw_p9 : lw_okq (⟨"GlassHall$Strips", "take", "(LGlassHall$Glass;IZ)Z"⟩, 7) := ⟨⟨by decide +kernel, by decide +kernel⟩, List.mem_of_getElem? (i := 144) (by decide +kernel), List.mem_of_getElem? (i := 551) (by decide +kernel), List.mem_of_getElem? (i := 552) (by decide +kernel)⟩
theorem lw_p10 : lw_okq (⟨"GlassHall", "adoptLayout", "(LGlassHall$Sheet;)I"⟩, 11) := ⟨⟨by decide +kernel, by decide +kernel⟩, List.mem_of_getElem? (i := 21) (by decide +kernel), List.mem_of_getElem? (i := 571) (by decide +kernel), List.mem_of_getElem? (i := 572) (by decide +kernel)⟩
theorem lw_p11 : lw_okq (⟨"GlassHall$Tree", "add", "(IIIIII)I"⟩, 9) := ⟨⟨by decide +kernel, by decide +kernel⟩, List.mem_of_getElem? (i := 198) (by decide +kernel), List.mem_of_getElem? (i := 606) (by decide +kernel), List.mem_of_getElem? (i := 607) (by decide +kernel)⟩
theorem lw_p12 : lw_okq (⟨"GlassHall$Tree", "growColumn", "(LGlassHall$Layout;IIII)V"⟩, 9) := ⟨⟨by decide +kernel, by decide +kernel⟩, List.mem_of_getElem? (i := 198) (by decide +kernel), List.mem_of_getElem? (i := 610) (by decide +kernel), List.mem_of_getElem? (i := 611) (by decide +kernel)⟩
theorem lw_p13 : lw_okq (⟨"GlassHall$Tree", "growRow", "(LGlassHall$Layout;IIIIII)V"⟩, 9) := ⟨⟨by decide +kernel, by decide +kernel⟩, List.mem_of_getElem? (i := 198) (by decide +kernel), List.mem_of_getElem? (i := 619) (by decide +kernel), List.mem_of_getElem? (i := 620) (by decide +kernel)⟩
theorem lw_p14 : lw_okq (⟨"GlassHall$Tree", "growCell", "(LGlassHall$Layout;IIII)V"⟩, 9) := ⟨⟨by decide +kernel, by decide +kernel⟩, List.mem_of_getElem? (i := 198) (by decide +kernel), List.mem_of_getElem? (i := 624) (by decide +kernel), List.mem_of_getElem? (i := 625) (by decide +kernel)⟩
theorem lw_p15 : lw_okq (⟨"GlassHall$Tree", "beginSecond", "(I)V"⟩, 9) := ⟨⟨by decide +kernel, by decide +kernel⟩, List.mem_of_getElem? (i := 198) (by decide +kernel), List.mem_of_getElem? (i := 628) (by decide +kernel), List.mem_of_getElem? (i := 629) (by decide +kernel)⟩
def lw_privs_1 : List (MethodName × Nat) := [(⟨"GlassHall", "unplannedArea", "()J"⟩, 11), (⟨"GlassHall", "waitingArea", "()J"⟩, 11), (⟨"GlassHall", "countSheets", "(Z)I"⟩, 11), (⟨"java/lang/Throwable", "fillInStackTrace", "(I)Ljava/lang/Throwable;"⟩, 6), (⟨"GlassHall", "findFreeSlot", "()LGlassHall$Sheet;"⟩, 11), (⟨"GlassHall", "bringIn", "(LGlassHall$Sheet;)I"⟩, 11), (⟨"GlassHall", "findSheet", "(I)LGlassHall$Sheet;"⟩, 11), (⟨"GlassHall$Strips", "stackColumn", "(LGlassHall$Glass;)I"⟩, 7), (⟨"GlassHall$Strips", "takeFirst", "(LGlassHall$Glass;)Z"⟩, 7), (⟨"GlassHall$Strips", "take", "(LGlassHall$Glass;IZ)Z"⟩, 7), (⟨"GlassHall", "adoptLayout", "(LGlassHall$Sheet;)I"⟩, 11), (⟨"GlassHall$Tree", "add", "(IIIIII)I"⟩, 9), (⟨"GlassHall$Tree", "growColumn", "(LGlassHall$Layout;IIII)V"⟩, 9), (⟨"GlassHall$Tree", "growRow", "(LGlassHall$Layout;IIIIII)V"⟩, 9), (⟨"GlassHall$Tree", "growCell", "(LGlassHall$Layout;IIII)V"⟩, 9), (⟨"GlassHall$Tree", "beginSecond", "(I)V"⟩, 9)]
theorem lw_r1 : ∀ q ∈ lw_privs_1, lw_okq q := List.forall_mem_cons.mpr ⟨lw_p0, List.forall_mem_cons.mpr ⟨lw_p1, List.forall_mem_cons.mpr ⟨lw_p2, List.forall_mem_cons.mpr ⟨lw_p3, List.forall_mem_cons.mpr ⟨lw_p4, List.forall_mem_cons.mpr ⟨lw_p5, List.forall_mem_cons.mpr ⟨lw_p6, List.forall_mem_cons.mpr ⟨lw_p7, List.forall_mem_cons.mpr ⟨lw_p8, List.forall_mem_cons.mpr ⟨lw_p9, List.forall_mem_cons.mpr ⟨lw_p10, List.forall_mem_cons.mpr ⟨lw_p11, List.forall_mem_cons.mpr ⟨lw_p12, List.forall_mem_cons.mpr ⟨lw_p13, List.forall_mem_cons.mpr ⟨lw_p14, List.forall_mem_cons.mpr ⟨lw_p15, fun _ h => absurd h List.not_mem_nil⟩⟩⟩⟩⟩⟩⟩⟩⟩⟩⟩⟩⟩⟩⟩⟩
theorem lw_p16 : lw_okq (⟨"GlassHall$Tree", "addRest", "(IIII)V"⟩, 9) := ⟨⟨by decide +kernel, by decide +kernel⟩, List.mem_of_getElem? (i := 198) (by decide +kernel), List.mem_of_getElem? (i := 632) (by decide +kernel), List.mem_of_getElem? (i := 633) (by decide +kernel)⟩
theorem lw_p17 : lw_okq (⟨"GlassHall$Trial", "addName", "(I)V"⟩, 4) := ⟨⟨by decide +kernel, by decide +kernel⟩, List.mem_of_getElem? (i := 172) (by decide +kernel), List.mem_of_getElem? (i := 652) (by decide +kernel), List.mem_of_getElem? (i := 653) (by decide +kernel)⟩
theorem lw_p18 : lw_okq (⟨"GlassHall$Trial", "timesNamed", "(I)I"⟩, 4) := ⟨⟨by decide +kernel, by decide +kernel⟩, List.mem_of_getElem? (i := 172) (by decide +kernel), List.mem_of_getElem? (i := 665) (by decide +kernel), List.mem_of_getElem? (i := 666) (by decide +kernel)⟩
theorem lw_p19 : lw_okq (⟨"GlassHall$Trial", "placeFrom", "(LGlassHall$Glass;I)Z"⟩, 4) := ⟨⟨by decide +kernel, by decide +kernel⟩, List.mem_of_getElem? (i := 172) (by decide +kernel), List.mem_of_getElem? (i := 674) (by decide +kernel), List.mem_of_getElem? (i := 675) (by decide +kernel)⟩
theorem lw_p20 : lw_okq (⟨"GlassHall$Trial", "placeAt", "(LGlassHall$Glass;IIIZ)Z"⟩, 4) := ⟨⟨by decide +kernel, by decide +kernel⟩, List.mem_of_getElem? (i := 172) (by decide +kernel), List.mem_of_getElem? (i := 680) (by decide +kernel), List.mem_of_getElem? (i := 681) (by decide +kernel)⟩
theorem lw_p21 : lw_okq (⟨"GlassHall", "findPlanned", "(I)LGlassHall$Sheet;"⟩, 11) := ⟨⟨by decide +kernel, by decide +kernel⟩, List.mem_of_getElem? (i := 21) (by decide +kernel), List.mem_of_getElem? (i := 708) (by decide +kernel), List.mem_of_getElem? (i := 709) (by decide +kernel)⟩
theorem lw_p22 : lw_okq (⟨"GlassHall", "letWait", "(LGlassHall$Sheet;I)V"⟩, 11) := ⟨⟨by decide +kernel, by decide +kernel⟩, List.mem_of_getElem? (i := 21) (by decide +kernel), List.mem_of_getElem? (i := 758) (by decide +kernel), List.mem_of_getElem? (i := 759) (by decide +kernel)⟩
theorem lw_p23 : lw_okq (⟨"GlassHall", "putAway", "(LGlassHall$Sheet;I)V"⟩, 11) := ⟨⟨by decide +kernel, by decide +kernel⟩, List.mem_of_getElem? (i := 21) (by decide +kernel), List.mem_of_getElem? (i := 767) (by decide +kernel), List.mem_of_getElem? (i := 768) (by decide +kernel)⟩
theorem lw_p24 : lw_okq (⟨"GlassHall", "clearAwayIfEmpty", "(LGlassHall$Sheet;)V"⟩, 11) := ⟨⟨by decide +kernel, by decide +kernel⟩, List.mem_of_getElem? (i := 21) (by decide +kernel), List.mem_of_getElem? (i := 785) (by decide +kernel), List.mem_of_getElem? (i := 786) (by decide +kernel)⟩
theorem lw_p25 : lw_okq (⟨"GlassHall", "reopenPanes", "(LGlassHall$Tree;I)I"⟩, 11) := ⟨⟨by decide +kernel, by decide +kernel⟩, List.mem_of_getElem? (i := 21) (by decide +kernel), List.mem_of_getElem? (i := 797) (by decide +kernel), List.mem_of_getElem? (i := 798) (by decide +kernel)⟩
theorem lw_p26 : lw_okq (⟨"GlassHall", "findOffcut", "(I)LGlassHall$Glass;"⟩, 11) := ⟨⟨by decide +kernel, by decide +kernel⟩, List.mem_of_getElem? (i := 21) (by decide +kernel), List.mem_of_getElem? (i := 828) (by decide +kernel), List.mem_of_getElem? (i := 829) (by decide +kernel)⟩
theorem lw_p27 : lw_okq (⟨"GlassHallModel", "sheets", "()I"⟩, 53) := ⟨⟨by decide +kernel, by decide +kernel⟩, List.mem_of_getElem? (i := 864) (by decide +kernel), List.mem_of_getElem? (i := 1042) (by decide +kernel), List.mem_of_getElem? (i := 1043) (by decide +kernel)⟩
theorem lw_p28 : lw_okq (⟨"GlassHallModel", "make", "(II)I"⟩, 53) := ⟨⟨by decide +kernel, by decide +kernel⟩, List.mem_of_getElem? (i := 864) (by decide +kernel), List.mem_of_getElem? (i := 1046) (by decide +kernel), List.mem_of_getElem? (i := 1047) (by decide +kernel)⟩
theorem lw_p29 : lw_okq (⟨"GlassHallModel", "find", "(I)I"⟩, 53) := ⟨⟨by decide +kernel, by decide +kernel⟩, List.mem_of_getElem? (i := 864) (by decide +kernel), List.mem_of_getElem? (i := 1054) (by decide +kernel), List.mem_of_getElem? (i := 1055) (by decide +kernel)⟩
theorem lw_p30 : lw_okq (⟨"GlassHallModel", "putFlaw", "(IIIII)V"⟩, 53) := ⟨⟨by decide +kernel, by decide +kernel⟩, List.mem_of_getElem? (i := 864) (by decide +kernel), List.mem_of_getElem? (i := 1058) (by decide +kernel), List.mem_of_getElem? (i := 1059) (by decide +kernel)⟩
theorem lw_p31 : lw_okq (⟨"GlassHallModel", "strips", "(I)V"⟩, 53) := ⟨⟨by decide +kernel, by decide +kernel⟩, List.mem_of_getElem? (i := 864) (by decide +kernel), List.mem_of_getElem? (i := 1070) (by decide +kernel), List.mem_of_getElem? (i := 1071) (by decide +kernel)⟩
def lw_privs_2 : List (MethodName × Nat) := [(⟨"GlassHall$Tree", "addRest", "(IIII)V"⟩, 9), (⟨"GlassHall$Trial", "addName", "(I)V"⟩, 4), (⟨"GlassHall$Trial", "timesNamed", "(I)I"⟩, 4), (⟨"GlassHall$Trial", "placeFrom", "(LGlassHall$Glass;I)Z"⟩, 4), (⟨"GlassHall$Trial", "placeAt", "(LGlassHall$Glass;IIIZ)Z"⟩, 4), (⟨"GlassHall", "findPlanned", "(I)LGlassHall$Sheet;"⟩, 11), (⟨"GlassHall", "letWait", "(LGlassHall$Sheet;I)V"⟩, 11), (⟨"GlassHall", "putAway", "(LGlassHall$Sheet;I)V"⟩, 11), (⟨"GlassHall", "clearAwayIfEmpty", "(LGlassHall$Sheet;)V"⟩, 11), (⟨"GlassHall", "reopenPanes", "(LGlassHall$Tree;I)I"⟩, 11), (⟨"GlassHall", "findOffcut", "(I)LGlassHall$Glass;"⟩, 11), (⟨"GlassHallModel", "sheets", "()I"⟩, 53), (⟨"GlassHallModel", "make", "(II)I"⟩, 53), (⟨"GlassHallModel", "find", "(I)I"⟩, 53), (⟨"GlassHallModel", "putFlaw", "(IIIII)V"⟩, 53), (⟨"GlassHallModel", "strips", "(I)V"⟩, 53)]
theorem lw_r2 : ∀ q ∈ lw_privs_2, lw_okq q := List.forall_mem_cons.mpr ⟨lw_p16, List.forall_mem_cons.mpr ⟨lw_p17, List.forall_mem_cons.mpr ⟨lw_p18, List.forall_mem_cons.mpr ⟨lw_p19, List.forall_mem_cons.mpr ⟨lw_p20, List.forall_mem_cons.mpr ⟨lw_p21, List.forall_mem_cons.mpr ⟨lw_p22, List.forall_mem_cons.mpr ⟨lw_p23, List.forall_mem_cons.mpr ⟨lw_p24, List.forall_mem_cons.mpr ⟨lw_p25, List.forall_mem_cons.mpr ⟨lw_p26, List.forall_mem_cons.mpr ⟨lw_p27, List.forall_mem_cons.mpr ⟨lw_p28, List.forall_mem_cons.mpr ⟨lw_p29, List.forall_mem_cons.mpr ⟨lw_p30, List.forall_mem_cons.mpr ⟨lw_p31, fun _ h => absurd h List.not_mem_nil⟩⟩⟩⟩⟩⟩⟩⟩⟩⟩⟩⟩⟩⟩⟩⟩
theorem lw_p32 : lw_okq (⟨"GlassHallModel", "choose", "(III)I"⟩, 53) := ⟨⟨by decide +kernel, by decide +kernel⟩, List.mem_of_getElem? (i := 864) (by decide +kernel), List.mem_of_getElem? (i := 1074) (by decide +kernel), List.mem_of_getElem? (i := 1075) (by decide +kernel)⟩
theorem lw_p33 : lw_okq (⟨"GlassHallModel", "isPossible", "(IIIIZ)Z"⟩, 53) := ⟨⟨by decide +kernel, by decide +kernel⟩, List.mem_of_getElem? (i := 864) (by decide +kernel), List.mem_of_getElem? (i := 1078) (by decide +kernel), List.mem_of_getElem? (i := 1079) (by decide +kernel)⟩
theorem lw_p34 : lw_okq (⟨"GlassHallModel", "meets", "(IIIIII)Z"⟩, 53) := ⟨⟨by decide +kernel, by decide +kernel⟩, List.mem_of_getElem? (i := 864) (by decide +kernel), List.mem_of_getElem? (i := 1082) (by decide +kernel), List.mem_of_getElem? (i := 1083) (by decide +kernel)⟩
theorem lw_p35 : lw_okq (⟨"GlassHallModel", "isBefore", "(II)Z"⟩, 53) := ⟨⟨by decide +kernel, by decide +kernel⟩, List.mem_of_getElem? (i := 864) (by decide +kernel), List.mem_of_getElem? (i := 1089) (by decide +kernel), List.mem_of_getElem? (i := 1090) (by decide +kernel)⟩
theorem lw_p36 : lw_okq (⟨"GlassHallModel", "lay", "(IZII)V"⟩, 53) := ⟨⟨by decide +kernel, by decide +kernel⟩, List.mem_of_getElem? (i := 864) (by decide +kernel), List.mem_of_getElem? (i := 1093) (by decide +kernel), List.mem_of_getElem? (i := 1094) (by decide +kernel)⟩
theorem lw_p37 : lw_okq (⟨"GlassHallModel", "adopt", "(I)I"⟩, 53) := ⟨⟨by decide +kernel, by decide +kernel⟩, List.mem_of_getElem? (i := 864) (by decide +kernel), List.mem_of_getElem? (i := 1097) (by decide +kernel), List.mem_of_getElem? (i := 1098) (by decide +kernel)⟩
theorem lw_p38 : lw_okq (⟨"GlassHallModel", "push", "(IIIII)V"⟩, 53) := ⟨⟨by decide +kernel, by decide +kernel⟩, List.mem_of_getElem? (i := 864) (by decide +kernel), List.mem_of_getElem? (i := 1101) (by decide +kernel), List.mem_of_getElem? (i := 1102) (by decide +kernel)⟩
theorem lw_p39 : lw_okq (⟨"GlassHallModel", "at", "(IIII)V"⟩, 53) := ⟨⟨by decide +kernel, by decide +kernel⟩, List.mem_of_getElem? (i := 864) (by decide +kernel), List.mem_of_getElem? (i := 1105) (by decide +kernel), List.mem_of_getElem? (i := 1106) (by decide +kernel)⟩
theorem lw_p40 : lw_okq (⟨"GlassHallModel", "grow", "(I)V"⟩, 53) := ⟨⟨by decide +kernel, by decide +kernel⟩, List.mem_of_getElem? (i := 864) (by decide +kernel), List.mem_of_getElem? (i := 1109) (by decide +kernel), List.mem_of_getElem? (i := 1110) (by decide +kernel)⟩
theorem lw_p41 : lw_okq (⟨"GlassHallModel", "reach", "(IIII)I"⟩, 53) := ⟨⟨by decide +kernel, by decide +kernel⟩, List.mem_of_getElem? (i := 864) (by decide +kernel), List.mem_of_getElem? (i := 1113) (by decide +kernel), List.mem_of_getElem? (i := 1114) (by decide +kernel)⟩
theorem lw_p42 : lw_okq (⟨"GlassHallModel", "paneAt", "(III)I"⟩, 53) := ⟨⟨by decide +kernel, by decide +kernel⟩, List.mem_of_getElem? (i := 864) (by decide +kernel), List.mem_of_getElem? (i := 1117) (by decide +kernel), List.mem_of_getElem? (i := 1118) (by decide +kernel)⟩
theorem lw_p43 : lw_okq (⟨"GlassHallModel", "columnWidth", "(I)I"⟩, 53) := ⟨⟨by decide +kernel, by decide +kernel⟩, List.mem_of_getElem? (i := 864) (by decide +kernel), List.mem_of_getElem? (i := 1121) (by decide +kernel), List.mem_of_getElem? (i := 1122) (by decide +kernel)⟩
theorem lw_p44 : lw_okq (⟨"GlassHallModel", "rowWidth", "(II)I"⟩, 53) := ⟨⟨by decide +kernel, by decide +kernel⟩, List.mem_of_getElem? (i := 864) (by decide +kernel), List.mem_of_getElem? (i := 1125) (by decide +kernel), List.mem_of_getElem? (i := 1126) (by decide +kernel)⟩
theorem lw_p45 : lw_okq (⟨"GlassHallModel", "rowHeight", "(II)I"⟩, 53) := ⟨⟨by decide +kernel, by decide +kernel⟩, List.mem_of_getElem? (i := 864) (by decide +kernel), List.mem_of_getElem? (i := 1129) (by decide +kernel), List.mem_of_getElem? (i := 1130) (by decide +kernel)⟩
theorem lw_p46 : lw_okq (⟨"GlassHallModel", "split", "(IIIIII)V"⟩, 53) := ⟨⟨by decide +kernel, by decide +kernel⟩, List.mem_of_getElem? (i := 864) (by decide +kernel), List.mem_of_getElem? (i := 1133) (by decide +kernel), List.mem_of_getElem? (i := 1134) (by decide +kernel)⟩
theorem lw_p47 : lw_okq (⟨"GlassHallModel", "isOrder", "(I)Z"⟩, 53) := ⟨⟨by decide +kernel, by decide +kernel⟩, List.mem_of_getElem? (i := 864) (by decide +kernel), List.mem_of_getElem? (i := 1141) (by decide +kernel), List.mem_of_getElem? (i := 1142) (by decide +kernel)⟩
def lw_privs_3 : List (MethodName × Nat) := [(⟨"GlassHallModel", "choose", "(III)I"⟩, 53), (⟨"GlassHallModel", "isPossible", "(IIIIZ)Z"⟩, 53), (⟨"GlassHallModel", "meets", "(IIIIII)Z"⟩, 53), (⟨"GlassHallModel", "isBefore", "(II)Z"⟩, 53), (⟨"GlassHallModel", "lay", "(IZII)V"⟩, 53), (⟨"GlassHallModel", "adopt", "(I)I"⟩, 53), (⟨"GlassHallModel", "push", "(IIIII)V"⟩, 53), (⟨"GlassHallModel", "at", "(IIII)V"⟩, 53), (⟨"GlassHallModel", "grow", "(I)V"⟩, 53), (⟨"GlassHallModel", "reach", "(IIII)I"⟩, 53), (⟨"GlassHallModel", "paneAt", "(III)I"⟩, 53), (⟨"GlassHallModel", "columnWidth", "(I)I"⟩, 53), (⟨"GlassHallModel", "rowWidth", "(II)I"⟩, 53), (⟨"GlassHallModel", "rowHeight", "(II)I"⟩, 53), (⟨"GlassHallModel", "split", "(IIIIII)V"⟩, 53), (⟨"GlassHallModel", "isOrder", "(I)Z"⟩, 53)]
theorem lw_r3 : ∀ q ∈ lw_privs_3, lw_okq q := List.forall_mem_cons.mpr ⟨lw_p32, List.forall_mem_cons.mpr ⟨lw_p33, List.forall_mem_cons.mpr ⟨lw_p34, List.forall_mem_cons.mpr ⟨lw_p35, List.forall_mem_cons.mpr ⟨lw_p36, List.forall_mem_cons.mpr ⟨lw_p37, List.forall_mem_cons.mpr ⟨lw_p38, List.forall_mem_cons.mpr ⟨lw_p39, List.forall_mem_cons.mpr ⟨lw_p40, List.forall_mem_cons.mpr ⟨lw_p41, List.forall_mem_cons.mpr ⟨lw_p42, List.forall_mem_cons.mpr ⟨lw_p43, List.forall_mem_cons.mpr ⟨lw_p44, List.forall_mem_cons.mpr ⟨lw_p45, List.forall_mem_cons.mpr ⟨lw_p46, List.forall_mem_cons.mpr ⟨lw_p47, fun _ h => absurd h List.not_mem_nil⟩⟩⟩⟩⟩⟩⟩⟩⟩⟩⟩⟩⟩⟩⟩⟩
theorem lw_p48 : lw_okq (⟨"GlassHallModel", "hasOpen", "(III)Z"⟩, 53) := ⟨⟨by decide +kernel, by decide +kernel⟩, List.mem_of_getElem? (i := 864) (by decide +kernel), List.mem_of_getElem? (i := 1145) (by decide +kernel), List.mem_of_getElem? (i := 1146) (by decide +kernel)⟩
theorem lw_p49 : lw_okq (⟨"GlassHallModel", "isFound", "(IIII)Z"⟩, 53) := ⟨⟨by decide +kernel, by decide +kernel⟩, List.mem_of_getElem? (i := 864) (by decide +kernel), List.mem_of_getElem? (i := 1149) (by decide +kernel), List.mem_of_getElem? (i := 1150) (by decide +kernel)⟩
theorem lw_p50 : lw_okq (⟨"GlassHallModel", "name", "(II)Z"⟩, 53) := ⟨⟨by decide +kernel, by decide +kernel⟩, List.mem_of_getElem? (i := 864) (by decide +kernel), List.mem_of_getElem? (i := 1153) (by decide +kernel), List.mem_of_getElem? (i := 1154) (by decide +kernel)⟩
theorem lw_p51 : lw_okq (⟨"GlassHallModel", "columns", "()I"⟩, 53) := ⟨⟨by decide +kernel, by decide +kernel⟩, List.mem_of_getElem? (i := 864) (by decide +kernel), List.mem_of_getElem? (i := 1157) (by decide +kernel), List.mem_of_getElem? (i := 1158) (by decide +kernel)⟩
theorem lw_p52 : lw_okq (⟨"GlassHallModel", "rowsOf", "(I)I"⟩, 53) := ⟨⟨by decide +kernel, by decide +kernel⟩, List.mem_of_getElem? (i := 864) (by decide +kernel), List.mem_of_getElem? (i := 1161) (by decide +kernel), List.mem_of_getElem? (i := 1162) (by decide +kernel)⟩
theorem lw_p53 : lw_okq (⟨"GlassHallModel", "fits", "(I)Z"⟩, 53) := ⟨⟨by decide +kernel, by decide +kernel⟩, List.mem_of_getElem? (i := 864) (by decide +kernel), List.mem_of_getElem? (i := 1165) (by decide +kernel), List.mem_of_getElem? (i := 1166) (by decide +kernel)⟩
theorem lw_p54 : lw_okq (⟨"GlassHallModel", "arrive", "(II)V"⟩, 53) := ⟨⟨by decide +kernel, by decide +kernel⟩, List.mem_of_getElem? (i := 864) (by decide +kernel), List.mem_of_getElem? (i := 1173) (by decide +kernel), List.mem_of_getElem? (i := 1174) (by decide +kernel)⟩
theorem lw_p55 : lw_okq (⟨"GlassHallModel", "store", "(II)V"⟩, 53) := ⟨⟨by decide +kernel, by decide +kernel⟩, List.mem_of_getElem? (i := 864) (by decide +kernel), List.mem_of_getElem? (i := 1177) (by decide +kernel), List.mem_of_getElem? (i := 1178) (by decide +kernel)⟩
theorem lw_p56 : lw_okq (⟨"GlassHallModel", "leave", "(I)V"⟩, 53) := ⟨⟨by decide +kernel, by decide +kernel⟩, List.mem_of_getElem? (i := 864) (by decide +kernel), List.mem_of_getElem? (i := 1181) (by decide +kernel), List.mem_of_getElem? (i := 1182) (by decide +kernel)⟩
theorem lw_p57 : lw_okq (⟨"GlassHallModel", "isOffcut", "(I)Z"⟩, 53) := ⟨⟨by decide +kernel, by decide +kernel⟩, List.mem_of_getElem? (i := 864) (by decide +kernel), List.mem_of_getElem? (i := 1205) (by decide +kernel), List.mem_of_getElem? (i := 1206) (by decide +kernel)⟩
theorem lw_p58 : lw_okq (⟨"GlassHallModel", "moveOffcut", "(II)V"⟩, 53) := ⟨⟨by decide +kernel, by decide +kernel⟩, List.mem_of_getElem? (i := 864) (by decide +kernel), List.mem_of_getElem? (i := 1209) (by decide +kernel), List.mem_of_getElem? (i := 1210) (by decide +kernel)⟩
def lw_privs_4 : List (MethodName × Nat) := [(⟨"GlassHallModel", "hasOpen", "(III)Z"⟩, 53), (⟨"GlassHallModel", "isFound", "(IIII)Z"⟩, 53), (⟨"GlassHallModel", "name", "(II)Z"⟩, 53), (⟨"GlassHallModel", "columns", "()I"⟩, 53), (⟨"GlassHallModel", "rowsOf", "(I)I"⟩, 53), (⟨"GlassHallModel", "fits", "(I)Z"⟩, 53), (⟨"GlassHallModel", "arrive", "(II)V"⟩, 53), (⟨"GlassHallModel", "store", "(II)V"⟩, 53), (⟨"GlassHallModel", "leave", "(I)V"⟩, 53), (⟨"GlassHallModel", "isOffcut", "(I)Z"⟩, 53), (⟨"GlassHallModel", "moveOffcut", "(II)V"⟩, 53)]
theorem lw_r4 : ∀ q ∈ lw_privs_4, lw_okq q := List.forall_mem_cons.mpr ⟨lw_p48, List.forall_mem_cons.mpr ⟨lw_p49, List.forall_mem_cons.mpr ⟨lw_p50, List.forall_mem_cons.mpr ⟨lw_p51, List.forall_mem_cons.mpr ⟨lw_p52, List.forall_mem_cons.mpr ⟨lw_p53, List.forall_mem_cons.mpr ⟨lw_p54, List.forall_mem_cons.mpr ⟨lw_p55, List.forall_mem_cons.mpr ⟨lw_p56, List.forall_mem_cons.mpr ⟨lw_p57, List.forall_mem_cons.mpr ⟨lw_p58, fun _ h => absurd h List.not_mem_nil⟩⟩⟩⟩⟩⟩⟩⟩⟩⟩⟩
def lw_privs : List (MethodName × Nat) := lw_privs_1 ++ (lw_privs_2 ++ (lw_privs_3 ++ (lw_privs_4)))
def lw_tbl : List Cond := k2_sels lw_privs ++ tables_1
theorem lw_privs_ok : ∀ q ∈ lw_privs, lw_okq q := by
  show ∀ q ∈ lw_privs_1 ++ (lw_privs_2 ++ (lw_privs_3 ++ (lw_privs_4))), lw_okq q
  exact List.forall_mem_append.mpr ⟨lw_r1, List.forall_mem_append.mpr ⟨lw_r2, List.forall_mem_append.mpr ⟨lw_r3, lw_r4⟩⟩⟩
end
section
/-! the classes, their fields, the words of the tables, the methods: written by a program out of the Statement -/
def RLw : String := "GlassHallLaw"
def RGl : String := "GlassHall$Glass"
def TGl : u_T := fun k => match k with
  | 0 => ("GlassHall$Glass", "flawX", "[I", true)
  | 1 => ("GlassHall$Glass", "flawY", "[I", true)
  | 2 => ("GlassHall$Glass", "flawWide", "[I", true)
  | 3 => ("GlassHall$Glass", "flawHigh", "[I", true)
  | 4 => ("GlassHall$Glass", "wide", "I", false)
  | 5 => ("GlassHall$Glass", "high", "I", false)
  | _ => ("GlassHall$Glass", "flaws", "I", false)
def tyGl : Nat → FieldType := fun k => match k with
  | 0 => .array (.int)
  | 1 => .array (.int)
  | 2 => .array (.int)
  | 3 => .array (.int)
  | 4 => .int
  | 5 => .int
  | _ => .int
theorem nmGl : ∀ a, a < 7 → ∀ b, b < 7 → a ≠ b → (TGl a).2.1 ≠ (TGl b).2.1 := by decide +kernel
theorem tyGl_ok : ∀ k, k < 7 → parseFieldDescriptor (TGl k).2.2.1 = some (tyGl k) := by decide +kernel
def RLa : String := "GlassHall$Layout"
def TLa : u_T := fun k => match k with
  | 0 => ("GlassHall$Layout", "orderOf", "[I", true)
  | 1 => ("GlassHall$Layout", "wide", "[I", true)
  | 2 => ("GlassHall$Layout", "high", "[I", true)
  | 3 => ("GlassHall$Layout", "column", "[I", true)
  | 4 => ("GlassHall$Layout", "row", "[I", true)
  | _ => ("GlassHall$Layout", "size", "I", false)
def tyLa : Nat → FieldType := fun k => match k with
  | 0 => .array (.int)
  | 1 => .array (.int)
  | 2 => .array (.int)
  | 3 => .array (.int)
  | 4 => .array (.int)
  | _ => .int
theorem nmLa : ∀ a, a < 6 → ∀ b, b < 6 → a ≠ b → (TLa a).2.1 ≠ (TLa b).2.1 := by decide +kernel
theorem tyLa_ok : ∀ k, k < 6 → parseFieldDescriptor (TLa k).2.2.1 = some (tyLa k) := by decide +kernel
def ROr : String := "GlassHall$Order"
def TOr : u_T := fun k => match k with
  | 0 => ("GlassHall$Order", "wide", "I", true)
  | 1 => ("GlassHall$Order", "high", "I", true)
  | 2 => ("GlassHall$Order", "turns", "Z", true)
  | 3 => ("GlassHall$Order", "open", "I", false)
  | 4 => ("GlassHall$Order", "planned", "I", false)
  | _ => ("GlassHall$Order", "done", "I", false)
def tyOr : Nat → FieldType := fun k => match k with
  | 0 => .int
  | 1 => .int
  | 2 => .boolean
  | 3 => .int
  | 4 => .int
  | _ => .int
theorem nmOr : ∀ a, a < 6 → ∀ b, b < 6 → a ≠ b → (TOr a).2.1 ≠ (TOr b).2.1 := by decide +kernel
theorem tyOr_ok : ∀ k, k < 6 → parseFieldDescriptor (TOr k).2.2.1 = some (tyOr k) := by decide +kernel
def RBk : String := "GlassHall$OrderBook"
def TBk : u_T := fun k => match k with
  | 0 => ("GlassHall$OrderBook", "orders", "[LGlassHall$Order;", true)
  | 1 => ("GlassHall$OrderBook", "ranked", "[I", true)
  | _ => ("GlassHall$OrderBook", "size", "I", false)
def tyBk : Nat → FieldType := fun k => match k with
  | 0 => .array (.object "GlassHall$Order")
  | 1 => .array (.int)
  | _ => .int
theorem nmBk : ∀ a, a < 3 → ∀ b, b < 3 → a ≠ b → (TBk a).2.1 ≠ (TBk b).2.1 := by decide +kernel
theorem tyBk_ok : ∀ k, k < 3 → parseFieldDescriptor (TBk k).2.2.1 = some (tyBk k) := by decide +kernel
def RRk : String := "GlassHall$Rack"
def TRk : u_T := fun k => match k with
  | 0 => ("GlassHall$Rack", "row", "[LGlassHall$Glass;", true)
  | _ => ("GlassHall$Rack", "size", "I", false)
def tyRk : Nat → FieldType := fun k => match k with
  | 0 => .array (.object "GlassHall$Glass")
  | _ => .int
theorem nmRk : ∀ a, a < 2 → ∀ b, b < 2 → a ≠ b → (TRk a).2.1 ≠ (TRk b).2.1 := by decide +kernel
theorem tyRk_ok : ∀ k, k < 2 → parseFieldDescriptor (TRk k).2.2.1 = some (tyRk k) := by decide +kernel
def RSh : String := "GlassHall$Sheet"
def TSh : u_T := fun k => match k with
  | 0 => ("GlassHall$Sheet", "glass", "LGlassHall$Glass;", true)
  | 1 => ("GlassHall$Sheet", "tree", "LGlassHall$Tree;", true)
  | 2 => ("GlassHall$Sheet", "there", "Z", false)
  | _ => ("GlassHall$Sheet", "id", "I", false)
def tySh : Nat → FieldType := fun k => match k with
  | 0 => .object "GlassHall$Glass"
  | 1 => .object "GlassHall$Tree"
  | 2 => .boolean
  | _ => .int
theorem nmSh : ∀ a, a < 4 → ∀ b, b < 4 → a ≠ b → (TSh a).2.1 ≠ (TSh b).2.1 := by decide +kernel
theorem tySh_ok : ∀ k, k < 4 → parseFieldDescriptor (TSh k).2.2.1 = some (tySh k) := by decide +kernel
def RSt : String := "GlassHall$Strips"
def TSt : u_T := fun k => match k with
  | 0 => ("GlassHall$Strips", "book", "LGlassHall$OrderBook;", true)
  | 1 => ("GlassHall$Strips", "layout", "LGlassHall$Layout;", true)
  | 2 => ("GlassHall$Strips", "column", "I", false)
  | 3 => ("GlassHall$Strips", "row", "I", false)
  | 4 => ("GlassHall$Strips", "x", "I", false)
  | 5 => ("GlassHall$Strips", "y", "I", false)
  | _ => ("GlassHall$Strips", "room", "I", false)
def tySt : Nat → FieldType := fun k => match k with
  | 0 => .object "GlassHall$OrderBook"
  | 1 => .object "GlassHall$Layout"
  | 2 => .int
  | 3 => .int
  | 4 => .int
  | 5 => .int
  | _ => .int
theorem nmSt : ∀ a, a < 7 → ∀ b, b < 7 → a ≠ b → (TSt a).2.1 ≠ (TSt b).2.1 := by decide +kernel
theorem tySt_ok : ∀ k, k < 7 → parseFieldDescriptor (TSt k).2.2.1 = some (tySt k) := by decide +kernel
def RTr : String := "GlassHall$Tree"
def TTr : u_T := fun k => match k with
  | 0 => ("GlassHall$Tree", "kind", "[I", true)
  | 1 => ("GlassHall$Tree", "x", "[I", true)
  | 2 => ("GlassHall$Tree", "y", "[I", true)
  | 3 => ("GlassHall$Tree", "wide", "[I", true)
  | 4 => ("GlassHall$Tree", "high", "[I", true)
  | 5 => ("GlassHall$Tree", "mark", "[I", true)
  | 6 => ("GlassHall$Tree", "second", "[I", true)
  | 7 => ("GlassHall$Tree", "state", "[I", true)
  | _ => ("GlassHall$Tree", "size", "I", false)
def tyTr : Nat → FieldType := fun k => match k with
  | 0 => .array (.int)
  | 1 => .array (.int)
  | 2 => .array (.int)
  | 3 => .array (.int)
  | 4 => .array (.int)
  | 5 => .array (.int)
  | 6 => .array (.int)
  | 7 => .array (.int)
  | _ => .int
theorem nmTr : ∀ a, a < 9 → ∀ b, b < 9 → a ≠ b → (TTr a).2.1 ≠ (TTr b).2.1 := by decide +kernel
theorem tyTr_ok : ∀ k, k < 9 → parseFieldDescriptor (TTr k).2.2.1 = some (tyTr k) := by decide +kernel
def RTi : String := "GlassHall$Trial"
def TTi : u_T := fun k => match k with
  | 0 => ("GlassHall$Trial", "book", "LGlassHall$OrderBook;", true)
  | 1 => ("GlassHall$Trial", "layout", "LGlassHall$Layout;", true)
  | 2 => ("GlassHall$Trial", "named", "[I", true)
  | _ => ("GlassHall$Trial", "names", "I", false)
def tyTi : Nat → FieldType := fun k => match k with
  | 0 => .object "GlassHall$OrderBook"
  | 1 => .object "GlassHall$Layout"
  | 2 => .array (.int)
  | _ => .int
theorem nmTi : ∀ a, a < 4 → ∀ b, b < 4 → a ≠ b → (TTi a).2.1 ≠ (TTi b).2.1 := by decide +kernel
theorem tyTi_ok : ∀ k, k < 4 → parseFieldDescriptor (TTi k).2.2.1 = some (tyTi k) := by decide +kernel
def RHa : String := "GlassHall"
def THa : u_T := fun k => match k with
  | 0 => ("GlassHall", "slots", "[LGlassHall$Sheet;", true)
  | 1 => ("GlassHall", "book", "LGlassHall$OrderBook;", true)
  | 2 => ("GlassHall", "offcuts", "LGlassHall$Rack;", true)
  | 3 => ("GlassHall", "layout", "LGlassHall$Layout;", true)
  | 4 => ("GlassHall", "strips", "LGlassHall$Strips;", true)
  | 5 => ("GlassHall", "trial", "LGlassHall$Trial;", true)
  | 6 => ("GlassHall", "sheetsEver", "I", false)
  | 7 => ("GlassHall", "madeArea", "J", false)
  | 8 => ("GlassHall", "doneArea", "J", false)
  | 9 => ("GlassHall", "wasteArea", "J", false)
  | _ => ("GlassHall", "brokenArea", "J", false)
def tyHa : Nat → FieldType := fun k => match k with
  | 0 => .array (.object "GlassHall$Sheet")
  | 1 => .object "GlassHall$OrderBook"
  | 2 => .object "GlassHall$Rack"
  | 3 => .object "GlassHall$Layout"
  | 4 => .object "GlassHall$Strips"
  | 5 => .object "GlassHall$Trial"
  | 6 => .int
  | 7 => .long
  | 8 => .long
  | 9 => .long
  | _ => .long
theorem nmHa : ∀ a, a < 11 → ∀ b, b < 11 → a ≠ b → (THa a).2.1 ≠ (THa b).2.1 := by decide +kernel
theorem tyHa_ok : ∀ k, k < 11 → parseFieldDescriptor (THa k).2.2.1 = some (tyHa k) := by decide +kernel
def RMo : String := "GlassHallModel"
def TMo : u_T := fun k => match k with
  | 0 => ("GlassHallModel", "thrown", "I", false)
  | 1 => ("GlassHallModel", "ever", "I", false)
  | 2 => ("GlassHallModel", "there", "[Z", true)
  | 3 => ("GlassHallModel", "ids", "[I", true)
  | 4 => ("GlassHallModel", "widths", "[I", true)
  | 5 => ("GlassHallModel", "heights", "[I", true)
  | 6 => ("GlassHallModel", "planned", "[Z", true)
  | 7 => ("GlassHallModel", "scored", "[Z", true)
  | 8 => ("GlassHallModel", "flawCounts", "[I", true)
  | 9 => ("GlassHallModel", "flaws", "[I", true)
  | 10 => ("GlassHallModel", "nodeCounts", "[I", true)
  | 11 => ("GlassHallModel", "kinds", "[I", true)
  | 12 => ("GlassHallModel", "xs", "[I", true)
  | 13 => ("GlassHallModel", "ys", "[I", true)
  | 14 => ("GlassHallModel", "ws", "[I", true)
  | 15 => ("GlassHallModel", "hs", "[I", true)
  | 16 => ("GlassHallModel", "cuts", "[I", true)
  | 17 => ("GlassHallModel", "firsts", "[I", true)
  | 18 => ("GlassHallModel", "seconds", "[I", true)
  | 19 => ("GlassHallModel", "states", "[I", true)
  | 20 => ("GlassHallModel", "orders", "I", false)
  | 21 => ("GlassHallModel", "orderW", "[I", true)
  | 22 => ("GlassHallModel", "orderH", "[I", true)
  | 23 => ("GlassHallModel", "turns", "[Z", true)
  | 24 => ("GlassHallModel", "open", "[I", true)
  | 25 => ("GlassHallModel", "coming", "[I", true)
  | 26 => ("GlassHallModel", "done", "[I", true)
  | 27 => ("GlassHallModel", "offcuts", "I", false)
  | 28 => ("GlassHallModel", "offW", "[I", true)
  | 29 => ("GlassHallModel", "offH", "[I", true)
  | 30 => ("GlassHallModel", "offFlawCounts", "[I", true)
  | 31 => ("GlassHallModel", "offFlaws", "[I", true)
  | 32 => ("GlassHallModel", "doneArea", "J", false)
  | 33 => ("GlassHallModel", "wasteArea", "J", false)
  | 34 => ("GlassHallModel", "brokenArea", "J", false)
  | 35 => ("GlassHallModel", "madeArea", "J", false)
  | 36 => ("GlassHallModel", "panes", "I", false)
  | 37 => ("GlassHallModel", "paneOrder", "[I", true)
  | 38 => ("GlassHallModel", "paneW", "[I", true)
  | 39 => ("GlassHallModel", "paneH", "[I", true)
  | 40 => ("GlassHallModel", "paneColumn", "[I", true)
  | 41 => ("GlassHallModel", "paneRow", "[I", true)
  | 42 => ("GlassHallModel", "taken", "[I", true)
  | 43 => ("GlassHallModel", "pieces", "I", false)
  | 44 => ("GlassHallModel", "pieceHas", "[I", true)
  | 45 => ("GlassHallModel", "pieceColumn", "[I", true)
  | 46 => ("GlassHallModel", "pieceRow", "[I", true)
  | 47 => ("GlassHallModel", "piecePane", "[I", true)
  | 48 => ("GlassHallModel", "pieceX", "[I", true)
  | 49 => ("GlassHallModel", "pieceY", "[I", true)
  | 50 => ("GlassHallModel", "pieceW", "[I", true)
  | 51 => ("GlassHallModel", "pieceH", "[I", true)
  | _ => ("GlassHallModel", "pieceOf", "[I", true)
def tyMo : Nat → FieldType := fun k => match k with
  | 0 => .int
  | 1 => .int
  | 2 => .array (.boolean)
  | 3 => .array (.int)
  | 4 => .array (.int)
  | 5 => .array (.int)
  | 6 => .array (.boolean)
  | 7 => .array (.boolean)
  | 8 => .array (.int)
  | 9 => .array (.int)
  | 10 => .array (.int)
  | 11 => .array (.int)
  | 12 => .array (.int)
  | 13 => .array (.int)
  | 14 => .array (.int)
  | 15 => .array (.int)
  | 16 => .array (.int)
  | 17 => .array (.int)
  | 18 => .array (.int)
  | 19 => .array (.int)
  | 20 => .int
  | 21 => .array (.int)
  | 22 => .array (.int)
  | 23 => .array (.boolean)
  | 24 => .array (.int)
  | 25 => .array (.int)
  | 26 => .array (.int)
  | 27 => .int
  | 28 => .array (.int)
  | 29 => .array (.int)
  | 30 => .array (.int)
  | 31 => .array (.int)
  | 32 => .long
  | 33 => .long
  | 34 => .long
  | 35 => .long
  | 36 => .int
  | 37 => .array (.int)
  | 38 => .array (.int)
  | 39 => .array (.int)
  | 40 => .array (.int)
  | 41 => .array (.int)
  | 42 => .array (.int)
  | 43 => .int
  | 44 => .array (.int)
  | 45 => .array (.int)
  | 46 => .array (.int)
  | 47 => .array (.int)
  | 48 => .array (.int)
  | 49 => .array (.int)
  | 50 => .array (.int)
  | 51 => .array (.int)
  | _ => .array (.int)
theorem nmMo : ∀ a, a < 53 → ∀ b, b < 53 → a ≠ b → (TMo a).2.1 ≠ (TMo b).2.1 := by decide +kernel
theorem tyMo_ok : ∀ k, k < 53 → parseFieldDescriptor (TMo k).2.2.1 = some (tyMo k) := by decide +kernel
def T0 : u_T := fun _ => ("", "", "", false)
def RNse : String := "java/util/NoSuchElementException"
def RIae : String := "java/lang/IllegalArgumentException"
def RIse : String := "java/lang/IllegalStateException"
def RIoo : String := "java/lang/IndexOutOfBoundsException"
def xcl : List vw_C := [(RGl, TGl, 7), (RLa, TLa, 6), (ROr, TOr, 6), (RBk, TBk, 3), (RRk, TRk, 2), (RSh, TSh, 4), (RSt, TSt, 7), (RTr, TTr, 9), (RTi, TTi, 4), (RHa, THa, 11), (RMo, TMo, 53), (RNse, T0, 0), (RIae, T0, 0), (RIse, T0, 0), (RIoo, T0, 0)]
/-- words that stay true as the tables grow warmer, whatever the heap -/
def xOk (w : Cond) : Bool := (w.onTables && (w.keeps || w.keepsH)) || match w with
  | .castable .. => true
  | .declares .. => true
  | .arrayOver (.object _) => true
  | .arrayClass _ => true
  | _ => false
theorem xOk_warm {w : Cond} (h : xOk w = true) {s U : State} {args a' : Array Value} (hW : s.WarmedH U.vm) (hb : w.before args s = true) : w.before a' U = true := by
  unfold xOk at h
  rw [Bool.or_eq_true] at h
  rcases h with h | h
  · rw [Bool.and_eq_true, Bool.or_eq_true] at h
    obtain ⟨h1, h2 | h2⟩ := h
    · have := Cond.onTables_warm (T := U) (args' := a') hW h1 h2 hb
      rwa [State.setVm_self] at this
    · have := Cond.onTables_warmH (T := U) (args' := a') hW h1 h2 hb
      rwa [State.setVm_self] at this
  · cases w with
    | castable C D => exact va_Nw.use rfl (va_Nw.warmC hW (va_Nw.of rfl hb))
    | declares x => exact va_Nw.use rfl (va_Nw.warmD hW (va_Nw.of rfl hb))
    | arrayOver ty =>
      cases ty with
      | object C => exact va_AO.use (va_AO.moved hW.alike (va_AO.of hb))
      | _ => cases h
    | arrayClass ty => exact word_at hW (Or.inr ⟨ty, rfl⟩) hb
    | _ => cases h
def xWS : List Cond := lw_tbl.filter xOk
theorem xWS_warm (w : Cond) (hw : w ∈ xWS) {s U : State} {args a' : Array Value} (hW : s.WarmedH U.vm) (hb : w.before args s = true) : w.before a' U = true := xOk_warm (List.mem_filter.mp hw).2 hW hb
theorem xIn {w : Cond} (i : Nat) (h : tables_1[i]? = some w) (ho : xOk w = true) : w ∈ xWS := List.mem_filter.mpr ⟨List.mem_append_right _ (List.mem_of_getElem? h), ho⟩
theorem xInS {y : MethodName} {C : String} (i n : Nat) (h : lw_privs[i]? = some (y, n)) (hC : y.cls = C) : Cond.selects C y y ∈ xWS := by
  subst hC
  refine List.mem_filter.mpr ⟨List.mem_append_left _ ?_, rfl⟩
  exact List.mem_map.mpr ⟨(y, n), List.mem_of_getElem? h, rfl⟩
theorem xSub (ws : List Cond) (ps : List Nat) (h : ws = ps.filterMap (fun i => tables_1[i]?)) (ho : ws.all xOk = true) : ∀ w ∈ ws, w ∈ xWS := by
  intro w hw
  have h1 := List.all_eq_true.mp ho w hw
  rw [h] at hw
  obtain ⟨i, -, hi⟩ := List.mem_filterMap.mp hw
  exact xIn i hi h1
def xSW : List Cond := [.laysStatic Bundle.tN "UNASSIGNED_STACK" Bundle.steD, .laysStatic Bundle.tN "SUPPRESSED_SENTINEL" Bundle.listD, .isRef (.static Bundle.tN "UNASSIGNED_STACK" Bundle.steD), .isRef (.static Bundle.tN "SUPPRESSED_SENTINEL" Bundle.listD)]
def m_Ha_init : MethodName × ByteArray × Nat × Option FieldType × List (Nat × Nat × Nat × Nat) := (⟨RHa, "<init>", "()V"⟩, prog_1_method_1_code, 2, none, [])
def m_Bk_init : MethodName × ByteArray × Nat × Option FieldType × List (Nat × Nat × Nat × Nat) := (⟨RBk, "<init>", "()V"⟩, prog_5_method_1_code, 1, none, [])
def m_Rk_init : MethodName × ByteArray × Nat × Option FieldType × List (Nat × Nat × Nat × Nat) := (⟨RRk, "<init>", "()V"⟩, prog_6_method_1_code, 2, none, [])
def m_Gl_init : MethodName × ByteArray × Nat × Option FieldType × List (Nat × Nat × Nat × Nat) := (⟨RGl, "<init>", "()V"⟩, prog_2_method_1_code, 1, none, [])
def m_La_init : MethodName × ByteArray × Nat × Option FieldType × List (Nat × Nat × Nat × Nat) := (⟨RLa, "<init>", "()V"⟩, prog_3_method_1_code, 1, none, [])
def m_St_init : MethodName × ByteArray × Nat × Option FieldType × List (Nat × Nat × Nat × Nat) := (⟨RSt, "<init>", "(LGlassHall$OrderBook;LGlassHall$Layout;)V"⟩, prog_8_method_1_code, 3, none, [])
def m_Ti_init : MethodName × ByteArray × Nat × Option FieldType × List (Nat × Nat × Nat × Nat) := (⟨RTi, "<init>", "(LGlassHall$OrderBook;LGlassHall$Layout;)V"⟩, prog_10_method_1_code, 3, none, [])
def m_Sh_init : MethodName × ByteArray × Nat × Option FieldType × List (Nat × Nat × Nat × Nat) := (⟨RSh, "<init>", "()V"⟩, prog_7_method_1_code, 1, none, [])
def m_Tr_init : MethodName × ByteArray × Nat × Option FieldType × List (Nat × Nat × Nat × Nat) := (⟨RTr, "<init>", "()V"⟩, prog_9_method_1_code, 1, none, [])
def m_Ha_fit : MethodName × ByteArray × Nat × Option FieldType × List (Nat × Nat × Nat × Nat) := (⟨RHa, "fit", "(II)I"⟩, prog_1_method_14_code, 3, some Jvm.ClassFile.FieldType.int, [])
def m_Rk_smallestFor : MethodName × ByteArray × Nat × Option FieldType × List (Nat × Nat × Nat × Nat) := (⟨RRk, "smallestFor", "(II)I"⟩, prog_6_method_5_code, 8, some Jvm.ClassFile.FieldType.int, [])
def m_Gl_surface : MethodName × ByteArray × Nat × Option FieldType × List (Nat × Nat × Nat × Nat) := (⟨RGl, "surface", "()J"⟩, prog_2_method_6_code, 1, some Jvm.ClassFile.FieldType.long, [])
def m_Ha_area : MethodName × ByteArray × Nat × Option FieldType × List (Nat × Nat × Nat × Nat) := (⟨RHa, "area", "(I)J"⟩, prog_1_method_17_code, 2, some Jvm.ClassFile.FieldType.long, [])
def m_Ha_unplannedArea : MethodName × ByteArray × Nat × Option FieldType × List (Nat × Nat × Nat × Nat) := (⟨RHa, "unplannedArea", "()J"⟩, prog_1_method_31_code, 7, some Jvm.ClassFile.FieldType.long, [])
def m_Tr_isGrown : MethodName × ByteArray × Nat × Option FieldType × List (Nat × Nat × Nat × Nat) := (⟨RTr, "isGrown", "()Z"⟩, prog_9_method_2_code, 1, some Jvm.ClassFile.FieldType.boolean, [])
def m_Rk_surface : MethodName × ByteArray × Nat × Option FieldType × List (Nat × Nat × Nat × Nat) := (⟨RRk, "surface", "()J"⟩, prog_6_method_6_code, 4, some Jvm.ClassFile.FieldType.long, [])
def m_Ha_waitingArea : MethodName × ByteArray × Nat × Option FieldType × List (Nat × Nat × Nat × Nat) := (⟨RHa, "waitingArea", "()J"⟩, prog_1_method_32_code, 7, some Jvm.ClassFile.FieldType.long, [])
def m_Tr_waitingSurface : MethodName × ByteArray × Nat × Option FieldType × List (Nat × Nat × Nat × Nat) := (⟨RTr, "waitingSurface", "()J"⟩, prog_9_method_15_code, 4, some Jvm.ClassFile.FieldType.long, [])
def m_Tr_surface : MethodName × ByteArray × Nat × Option FieldType × List (Nat × Nat × Nat × Nat) := (⟨RTr, "surface", "(I)J"⟩, prog_9_method_6_code, 2, some Jvm.ClassFile.FieldType.long, [])
def m_Ha_total : MethodName × ByteArray × Nat × Option FieldType × List (Nat × Nat × Nat × Nat) := (⟨RHa, "total", "(I)I"⟩, prog_1_method_18_code, 2, some Jvm.ClassFile.FieldType.int, [])
def m_Ha_countSheets : MethodName × ByteArray × Nat × Option FieldType × List (Nat × Nat × Nat × Nat) := (⟨RHa, "countSheets", "(Z)I"⟩, prog_1_method_33_code, 7, some Jvm.ClassFile.FieldType.int, [])
def m_Lw_sheet : MethodName × ByteArray × Nat × Option FieldType × List (Nat × Nat × Nat × Nat) := (⟨RLw, "sheet", "(LGlassHall;II[J)I"⟩, method_3_code, 5, some Jvm.ClassFile.FieldType.int, [(0, 10, 13, 13), (0, 10, 17, 15)])
def m_Ha_sheet : MethodName × ByteArray × Nat × Option FieldType × List (Nat × Nat × Nat × Nat) := (⟨RHa, "sheet", "(II)I"⟩, prog_1_method_2_code, 4, some Jvm.ClassFile.FieldType.int, [])
def m_Ha_isLength : MethodName × ByteArray × Nat × Option FieldType × List (Nat × Nat × Nat × Nat) := (⟨RHa, "isLength", "(I)Z"⟩, prog_1_method_19_code, 1, some Jvm.ClassFile.FieldType.boolean, [])
def m_Ha_findFreeSlot : MethodName × ByteArray × Nat × Option FieldType × List (Nat × Nat × Nat × Nat) := (⟨RHa, "findFreeSlot", "()LGlassHall$Sheet;"⟩, prog_1_method_21_code, 5, some (Jvm.ClassFile.FieldType.object "GlassHall$Sheet"), [])
def m_Gl_become : MethodName × ByteArray × Nat × Option FieldType × List (Nat × Nat × Nat × Nat) := (⟨RGl, "become", "(II)V"⟩, prog_2_method_2_code, 3, none, [])
def m_Ha_bringIn : MethodName × ByteArray × Nat × Option FieldType × List (Nat × Nat × Nat × Nat) := (⟨RHa, "bringIn", "(LGlassHall$Sheet;)I"⟩, prog_1_method_25_code, 2, some Jvm.ClassFile.FieldType.int, [])
def m_Lw_flaw : MethodName × ByteArray × Nat × Option FieldType × List (Nat × Nat × Nat × Nat) := (⟨RLw, "flaw", "(LGlassHall;IIIII[J)I"⟩, method_4_code, 8, some Jvm.ClassFile.FieldType.int, [(0, 16, 19, 21), (0, 16, 23, 13), (0, 16, 27, 15)])
def m_Ha_flaw : MethodName × ByteArray × Nat × Option FieldType × List (Nat × Nat × Nat × Nat) := (⟨RHa, "flaw", "(IIIII)I"⟩, prog_1_method_3_code, 8, some Jvm.ClassFile.FieldType.int, [])
def m_Ha_findSheet : MethodName × ByteArray × Nat × Option FieldType × List (Nat × Nat × Nat × Nat) := (⟨RHa, "findSheet", "(I)LGlassHall$Sheet;"⟩, prog_1_method_22_code, 6, some (Jvm.ClassFile.FieldType.object "GlassHall$Sheet"), [])
def m_Ha_liesIn : MethodName × ByteArray × Nat × Option FieldType × List (Nat × Nat × Nat × Nat) := (⟨RHa, "liesIn", "(III)Z"⟩, prog_1_method_20_code, 3, some Jvm.ClassFile.FieldType.boolean, [])
def m_Gl_addFlaw : MethodName × ByteArray × Nat × Option FieldType × List (Nat × Nat × Nat × Nat) := (⟨RGl, "addFlaw", "(IIII)V"⟩, prog_2_method_4_code, 5, none, [])
def m_Lw_order : MethodName × ByteArray × Nat × Option FieldType × List (Nat × Nat × Nat × Nat) := (⟨RLw, "order", "(LGlassHall;IIZI[J)I"⟩, method_5_code, 7, some Jvm.ClassFile.FieldType.int, [(0, 14, 17, 13), (0, 14, 21, 15)])
def m_Ha_order : MethodName × ByteArray × Nat × Option FieldType × List (Nat × Nat × Nat × Nat) := (⟨RHa, "order", "(IIZI)I"⟩, prog_1_method_4_code, 5, some Jvm.ClassFile.FieldType.int, [])
def m_Or_init : MethodName × ByteArray × Nat × Option FieldType × List (Nat × Nat × Nat × Nat) := (⟨ROr, "<init>", "(IIZI)V"⟩, prog_4_method_1_code, 5, none, [])
def m_Bk_add : MethodName × ByteArray × Nat × Option FieldType × List (Nat × Nat × Nat × Nat) := (⟨RBk, "add", "(LGlassHall$Order;)I"⟩, prog_5_method_3_code, 4, some Jvm.ClassFile.FieldType.int, [])
def m_Or_goesBefore : MethodName × ByteArray × Nat × Option FieldType × List (Nat × Nat × Nat × Nat) := (⟨ROr, "goesBefore", "(LGlassHall$Order;)Z"⟩, prog_4_method_2_code, 2, some Jvm.ClassFile.FieldType.boolean, [])
def m_Lw_plan : MethodName × ByteArray × Nat × Option FieldType × List (Nat × Nat × Nat × Nat) := (⟨RLw, "plan", "(LGlassHall;I[J)I"⟩, method_6_code, 4, some Jvm.ClassFile.FieldType.int, [(0, 9, 12, 21), (0, 9, 15, 15)])
def m_Ha_plan : MethodName × ByteArray × Nat × Option FieldType × List (Nat × Nat × Nat × Nat) := (⟨RHa, "plan", "(I)I"⟩, prog_1_method_5_code, 3, some Jvm.ClassFile.FieldType.int, [])
def m_St_fill : MethodName × ByteArray × Nat × Option FieldType × List (Nat × Nat × Nat × Nat) := (⟨RSt, "fill", "(LGlassHall$Glass;)V"⟩, prog_8_method_2_code, 4, none, [])
def m_La_clear : MethodName × ByteArray × Nat × Option FieldType × List (Nat × Nat × Nat × Nat) := (⟨RLa, "clear", "()V"⟩, prog_3_method_2_code, 1, none, [])
def m_St_stackColumn : MethodName × ByteArray × Nat × Option FieldType × List (Nat × Nat × Nat × Nat) := (⟨RSt, "stackColumn", "(LGlassHall$Glass;)I"⟩, prog_8_method_3_code, 5, some Jvm.ClassFile.FieldType.int, [])
def m_St_takeFirst : MethodName × ByteArray × Nat × Option FieldType × List (Nat × Nat × Nat × Nat) := (⟨RSt, "takeFirst", "(LGlassHall$Glass;)Z"⟩, prog_8_method_4_code, 3, some Jvm.ClassFile.FieldType.boolean, [])
def m_St_take : MethodName × ByteArray × Nat × Option FieldType × List (Nat × Nat × Nat × Nat) := (⟨RSt, "take", "(LGlassHall$Glass;IZ)Z"⟩, prog_8_method_5_code, 7, some Jvm.ClassFile.FieldType.boolean, [])
def m_Bk_at : MethodName × ByteArray × Nat × Option FieldType × List (Nat × Nat × Nat × Nat) := (⟨RBk, "at", "(I)LGlassHall$Order;"⟩, prog_5_method_2_code, 2, some (Jvm.ClassFile.FieldType.object "GlassHall$Order"), [])
def m_La_countOf : MethodName × ByteArray × Nat × Option FieldType × List (Nat × Nat × Nat × Nat) := (⟨RLa, "countOf", "(I)I"⟩, prog_3_method_6_code, 4, some Jvm.ClassFile.FieldType.int, [])
def m_Gl_isClear : MethodName × ByteArray × Nat × Option FieldType × List (Nat × Nat × Nat × Nat) := (⟨RGl, "isClear", "(IIII)Z"⟩, prog_2_method_5_code, 8, some Jvm.ClassFile.FieldType.boolean, [])
def m_La_put : MethodName × ByteArray × Nat × Option FieldType × List (Nat × Nat × Nat × Nat) := (⟨RLa, "put", "(IIIII)V"⟩, prog_3_method_3_code, 6, none, [])
def m_Ha_adoptLayout : MethodName × ByteArray × Nat × Option FieldType × List (Nat × Nat × Nat × Nat) := (⟨RHa, "adoptLayout", "(LGlassHall$Sheet;)I"⟩, prog_1_method_26_code, 3, some Jvm.ClassFile.FieldType.int, [])
def m_Tr_grow : MethodName × ByteArray × Nat × Option FieldType × List (Nat × Nat × Nat × Nat) := (⟨RTr, "grow", "(LGlassHall$Layout;II)V"⟩, prog_9_method_7_code, 9, none, [])
def m_Tr_clear : MethodName × ByteArray × Nat × Option FieldType × List (Nat × Nat × Nat × Nat) := (⟨RTr, "clear", "()V"⟩, prog_9_method_3_code, 1, none, [])
def m_La_columns : MethodName × ByteArray × Nat × Option FieldType × List (Nat × Nat × Nat × Nat) := (⟨RLa, "columns", "()I"⟩, prog_3_method_7_code, 3, some Jvm.ClassFile.FieldType.int, [])
def m_La_columnWidth : MethodName × ByteArray × Nat × Option FieldType × List (Nat × Nat × Nat × Nat) := (⟨RLa, "columnWidth", "(I)I"⟩, prog_3_method_11_code, 5, some Jvm.ClassFile.FieldType.int, [])
def m_La_rowsIn : MethodName × ByteArray × Nat × Option FieldType × List (Nat × Nat × Nat × Nat) := (⟨RLa, "rowsIn", "(I)I"⟩, prog_3_method_8_code, 4, some Jvm.ClassFile.FieldType.int, [])
def m_La_rowWidth : MethodName × ByteArray × Nat × Option FieldType × List (Nat × Nat × Nat × Nat) := (⟨RLa, "rowWidth", "(II)I"⟩, prog_3_method_9_code, 5, some Jvm.ClassFile.FieldType.int, [])
def m_La_isIn : MethodName × ByteArray × Nat × Option FieldType × List (Nat × Nat × Nat × Nat) := (⟨RLa, "isIn", "(III)Z"⟩, prog_3_method_5_code, 4, some Jvm.ClassFile.FieldType.boolean, [])
def m_Tr_add : MethodName × ByteArray × Nat × Option FieldType × List (Nat × Nat × Nat × Nat) := (⟨RTr, "add", "(IIIIII)I"⟩, prog_9_method_11_code, 7, some Jvm.ClassFile.FieldType.int, [])
def m_Tr_growColumn : MethodName × ByteArray × Nat × Option FieldType × List (Nat × Nat × Nat × Nat) := (⟨RTr, "growColumn", "(LGlassHall$Layout;IIII)V"⟩, prog_9_method_8_code, 11, none, [])
def m_La_rowHeight : MethodName × ByteArray × Nat × Option FieldType × List (Nat × Nat × Nat × Nat) := (⟨RLa, "rowHeight", "(II)I"⟩, prog_3_method_10_code, 5, some Jvm.ClassFile.FieldType.int, [])
def m_Tr_growRow : MethodName × ByteArray × Nat × Option FieldType × List (Nat × Nat × Nat × Nat) := (⟨RTr, "growRow", "(LGlassHall$Layout;IIIIII)V"⟩, prog_9_method_9_code, 13, none, [])
def m_Tr_growCell : MethodName × ByteArray × Nat × Option FieldType × List (Nat × Nat × Nat × Nat) := (⟨RTr, "growCell", "(LGlassHall$Layout;IIII)V"⟩, prog_9_method_10_code, 9, none, [])
def m_Tr_beginSecond : MethodName × ByteArray × Nat × Option FieldType × List (Nat × Nat × Nat × Nat) := (⟨RTr, "beginSecond", "(I)V"⟩, prog_9_method_13_code, 2, none, [])
def m_Tr_addRest : MethodName × ByteArray × Nat × Option FieldType × List (Nat × Nat × Nat × Nat) := (⟨RTr, "addRest", "(IIII)V"⟩, prog_9_method_12_code, 5, none, [])
def m_Bk_takeUp : MethodName × ByteArray × Nat × Option FieldType × List (Nat × Nat × Nat × Nat) := (⟨RBk, "takeUp", "(I)V"⟩, prog_5_method_4_code, 3, none, [])
def m_Lw_exact : MethodName × ByteArray × Nat × Option FieldType × List (Nat × Nat × Nat × Nat) := (⟨RLw, "exact", "(LGlassHall;IIII[J)I"⟩, method_7_code, 7, some Jvm.ClassFile.FieldType.int, [(0, 14, 17, 21), (0, 14, 21, 15)])
def m_Ha_exact : MethodName × ByteArray × Nat × Option FieldType × List (Nat × Nat × Nat × Nat) := (⟨RHa, "exact", "(IIII)I"⟩, prog_1_method_6_code, 6, some Jvm.ClassFile.FieldType.int, [])
def m_Ti_callNames : MethodName × ByteArray × Nat × Option FieldType × List (Nat × Nat × Nat × Nat) := (⟨RTi, "callNames", "(III)V"⟩, prog_10_method_2_code, 4, none, [])
def m_Ti_addName : MethodName × ByteArray × Nat × Option FieldType × List (Nat × Nat × Nat × Nat) := (⟨RTi, "addName", "(I)V"⟩, prog_10_method_3_code, 2, none, [])
def m_Ti_namesAreThere : MethodName × ByteArray × Nat × Option FieldType × List (Nat × Nat × Nat × Nat) := (⟨RTi, "namesAreThere", "()Z"⟩, prog_10_method_4_code, 2, some Jvm.ClassFile.FieldType.boolean, [])
def m_Ti_namesAreOpen : MethodName × ByteArray × Nat × Option FieldType × List (Nat × Nat × Nat × Nat) := (⟨RTi, "namesAreOpen", "()Z"⟩, prog_10_method_5_code, 3, some Jvm.ClassFile.FieldType.boolean, [])
def m_Ti_timesNamed : MethodName × ByteArray × Nat × Option FieldType × List (Nat × Nat × Nat × Nat) := (⟨RTi, "timesNamed", "(I)I"⟩, prog_10_method_6_code, 4, some Jvm.ClassFile.FieldType.int, [])
def m_Ti_fill : MethodName × ByteArray × Nat × Option FieldType × List (Nat × Nat × Nat × Nat) := (⟨RTi, "fill", "(LGlassHall$Glass;)V"⟩, prog_10_method_7_code, 2, none, [])
def m_Ti_placeFrom : MethodName × ByteArray × Nat × Option FieldType × List (Nat × Nat × Nat × Nat) := (⟨RTi, "placeFrom", "(LGlassHall$Glass;I)Z"⟩, prog_10_method_8_code, 7, some Jvm.ClassFile.FieldType.boolean, [])
def m_Ti_placeAt : MethodName × ByteArray × Nat × Option FieldType × List (Nat × Nat × Nat × Nat) := (⟨RTi, "placeAt", "(LGlassHall$Glass;IIIZ)Z"⟩, prog_10_method_9_code, 7, some Jvm.ClassFile.FieldType.boolean, [])
def m_La_fitsOn : MethodName × ByteArray × Nat × Option FieldType × List (Nat × Nat × Nat × Nat) := (⟨RLa, "fitsOn", "(LGlassHall$Glass;)Z"⟩, prog_3_method_13_code, 5, some Jvm.ClassFile.FieldType.boolean, [])
def m_La_columnHeight : MethodName × ByteArray × Nat × Option FieldType × List (Nat × Nat × Nat × Nat) := (⟨RLa, "columnHeight", "(I)I"⟩, prog_3_method_12_code, 5, some Jvm.ClassFile.FieldType.int, [])
def m_La_dropLast : MethodName × ByteArray × Nat × Option FieldType × List (Nat × Nat × Nat × Nat) := (⟨RLa, "dropLast", "()V"⟩, prog_3_method_4_code, 1, none, [])
def m_Lw_node : MethodName × ByteArray × Nat × Option FieldType × List (Nat × Nat × Nat × Nat) := (⟨RLw, "node", "(LGlassHall;III[J)I"⟩, method_8_code, 6, some Jvm.ClassFile.FieldType.int, [(0, 12, 15, 21), (0, 12, 19, 15), (0, 12, 23, 39), (0, 12, 27, 13)])
def m_Ha_node : MethodName × ByteArray × Nat × Option FieldType × List (Nat × Nat × Nat × Nat) := (⟨RHa, "node", "(III)I"⟩, prog_1_method_7_code, 5, some Jvm.ClassFile.FieldType.int, [])
def m_Ha_findPlanned : MethodName × ByteArray × Nat × Option FieldType × List (Nat × Nat × Nat × Nat) := (⟨RHa, "findPlanned", "(I)LGlassHall$Sheet;"⟩, prog_1_method_23_code, 3, some (Jvm.ClassFile.FieldType.object "GlassHall$Sheet"), [])
def m_Tr_has : MethodName × ByteArray × Nat × Option FieldType × List (Nat × Nat × Nat × Nat) := (⟨RTr, "has", "(I)Z"⟩, prog_9_method_4_code, 2, some Jvm.ClassFile.FieldType.boolean, [])
def m_Tr_tell : MethodName × ByteArray × Nat × Option FieldType × List (Nat × Nat × Nat × Nat) := (⟨RTr, "tell", "(II)I"⟩, prog_9_method_18_code, 3, some Jvm.ClassFile.FieldType.int, [])
def m_Tr_isCut : MethodName × ByteArray × Nat × Option FieldType × List (Nat × Nat × Nat × Nat) := (⟨RTr, "isCut", "(I)Z"⟩, prog_9_method_5_code, 2, some Jvm.ClassFile.FieldType.boolean, [])
def m_Lw_nodes : MethodName × ByteArray × Nat × Option FieldType × List (Nat × Nat × Nat × Nat) := (⟨RLw, "nodes", "(LGlassHall;I[J)I"⟩, method_9_code, 4, some Jvm.ClassFile.FieldType.int, [(0, 9, 12, 21), (0, 9, 15, 15)])
def m_Ha_nodes : MethodName × ByteArray × Nat × Option FieldType × List (Nat × Nat × Nat × Nat) := (⟨RHa, "nodes", "(I)I"⟩, prog_1_method_8_code, 2, some Jvm.ClassFile.FieldType.int, [])
def m_Lw_score : MethodName × ByteArray × Nat × Option FieldType × List (Nat × Nat × Nat × Nat) := (⟨RLw, "score", "(LGlassHall;I[J)I"⟩, method_10_code, 4, some Jvm.ClassFile.FieldType.int, [(0, 9, 12, 21), (0, 9, 15, 15)])
def m_Ha_score : MethodName × ByteArray × Nat × Option FieldType × List (Nat × Nat × Nat × Nat) := (⟨RHa, "score", "(I)I"⟩, prog_1_method_9_code, 5, some Jvm.ClassFile.FieldType.int, [])
def m_Tr_firstWaiting : MethodName × ByteArray × Nat × Option FieldType × List (Nat × Nat × Nat × Nat) := (⟨RTr, "firstWaiting", "()I"⟩, prog_9_method_14_code, 2, some Jvm.ClassFile.FieldType.int, [])
def m_Ha_letWait : MethodName × ByteArray × Nat × Option FieldType × List (Nat × Nat × Nat × Nat) := (⟨RHa, "letWait", "(LGlassHall$Sheet;I)V"⟩, prog_1_method_27_code, 4, none, [])
def m_Bk_finish : MethodName × ByteArray × Nat × Option FieldType × List (Nat × Nat × Nat × Nat) := (⟨RBk, "finish", "(I)V"⟩, prog_5_method_6_code, 3, none, [])
def m_Ha_putAway : MethodName × ByteArray × Nat × Option FieldType × List (Nat × Nat × Nat × Nat) := (⟨RHa, "putAway", "(LGlassHall$Sheet;I)V"⟩, prog_1_method_28_code, 5, none, [])
def m_Rk_addPart : MethodName × ByteArray × Nat × Option FieldType × List (Nat × Nat × Nat × Nat) := (⟨RRk, "addPart", "(LGlassHall$Glass;IIII)V"⟩, prog_6_method_3_code, 6, none, [])
def m_Gl_becomePart : MethodName × ByteArray × Nat × Option FieldType × List (Nat × Nat × Nat × Nat) := (⟨RGl, "becomePart", "(LGlassHall$Glass;IIII)V"⟩, prog_2_method_3_code, 11, none, [])
def m_Ha_clearAwayIfEmpty : MethodName × ByteArray × Nat × Option FieldType × List (Nat × Nat × Nat × Nat) := (⟨RHa, "clearAwayIfEmpty", "(LGlassHall$Sheet;)V"⟩, prog_1_method_30_code, 2, none, [])
def m_Lw_broke : MethodName × ByteArray × Nat × Option FieldType × List (Nat × Nat × Nat × Nat) := (⟨RLw, "broke", "(LGlassHall;II[J)I"⟩, method_11_code, 5, some Jvm.ClassFile.FieldType.int, [(0, 10, 13, 21), (0, 10, 17, 15), (0, 10, 21, 39)])
def m_Ha_broke : MethodName × ByteArray × Nat × Option FieldType × List (Nat × Nat × Nat × Nat) := (⟨RHa, "broke", "(II)I"⟩, prog_1_method_10_code, 6, some Jvm.ClassFile.FieldType.int, [])
def m_Ha_reopenPanes : MethodName × ByteArray × Nat × Option FieldType × List (Nat × Nat × Nat × Nat) := (⟨RHa, "reopenPanes", "(LGlassHall$Tree;I)I"⟩, prog_1_method_29_code, 6, some Jvm.ClassFile.FieldType.int, [])
def m_Tr_endOf : MethodName × ByteArray × Nat × Option FieldType × List (Nat × Nat × Nat × Nat) := (⟨RTr, "endOf", "(I)I"⟩, prog_9_method_16_code, 4, some Jvm.ClassFile.FieldType.int, [])
def m_Bk_reopen : MethodName × ByteArray × Nat × Option FieldType × List (Nat × Nat × Nat × Nat) := (⟨RBk, "reopen", "(I)V"⟩, prog_5_method_5_code, 3, none, [])
def m_Tr_breakFrom : MethodName × ByteArray × Nat × Option FieldType × List (Nat × Nat × Nat × Nat) := (⟨RTr, "breakFrom", "(I)V"⟩, prog_9_method_17_code, 4, none, [])
def m_Lw_cancel : MethodName × ByteArray × Nat × Option FieldType × List (Nat × Nat × Nat × Nat) := (⟨RLw, "cancel", "(LGlassHall;I[J)I"⟩, method_12_code, 4, some Jvm.ClassFile.FieldType.int, [(0, 9, 12, 21), (0, 9, 15, 15)])
def m_Ha_cancel : MethodName × ByteArray × Nat × Option FieldType × List (Nat × Nat × Nat × Nat) := (⟨RHa, "cancel", "(I)I"⟩, prog_1_method_11_code, 4, some Jvm.ClassFile.FieldType.int, [])
def m_Lw_use : MethodName × ByteArray × Nat × Option FieldType × List (Nat × Nat × Nat × Nat) := (⟨RLw, "use", "(LGlassHall;I[J)I"⟩, method_13_code, 4, some Jvm.ClassFile.FieldType.int, [(0, 9, 12, 21), (0, 9, 15, 15)])
def m_Ha_use : MethodName × ByteArray × Nat × Option FieldType × List (Nat × Nat × Nat × Nat) := (⟨RHa, "use", "(I)I"⟩, prog_1_method_12_code, 4, some Jvm.ClassFile.FieldType.int, [])
def m_Ha_findOffcut : MethodName × ByteArray × Nat × Option FieldType × List (Nat × Nat × Nat × Nat) := (⟨RHa, "findOffcut", "(I)LGlassHall$Glass;"⟩, prog_1_method_24_code, 2, some (Jvm.ClassFile.FieldType.object "GlassHall$Glass"), [])
def m_Rk_has : MethodName × ByteArray × Nat × Option FieldType × List (Nat × Nat × Nat × Nat) := (⟨RRk, "has", "(I)Z"⟩, prog_6_method_2_code, 2, some Jvm.ClassFile.FieldType.boolean, [])
def m_Rk_remove : MethodName × ByteArray × Nat × Option FieldType × List (Nat × Nat × Nat × Nat) := (⟨RRk, "remove", "(I)V"⟩, prog_6_method_4_code, 4, none, [])
def m_Lw_rack : MethodName × ByteArray × Nat × Option FieldType × List (Nat × Nat × Nat × Nat) := (⟨RLw, "rack", "(LGlassHall;II[J)I"⟩, method_14_code, 5, some Jvm.ClassFile.FieldType.int, [(0, 10, 13, 21), (0, 10, 17, 13)])
def m_Ha_rack : MethodName × ByteArray × Nat × Option FieldType × List (Nat × Nat × Nat × Nat) := (⟨RHa, "rack", "(II)I"⟩, prog_1_method_13_code, 4, some Jvm.ClassFile.FieldType.int, [])
def m_Lw_flawed : MethodName × ByteArray × Nat × Option FieldType × List (Nat × Nat × Nat × Nat) := (⟨RLw, "flawed", "(LGlassHall;III[J)I"⟩, method_15_code, 6, some Jvm.ClassFile.FieldType.int, [(0, 12, 15, 21), (0, 12, 19, 39), (0, 12, 23, 13)])
def m_Ha_flawed : MethodName × ByteArray × Nat × Option FieldType × List (Nat × Nat × Nat × Nat) := (⟨RHa, "flawed", "(III)I"⟩, prog_1_method_15_code, 5, some Jvm.ClassFile.FieldType.int, [])
def m_Lw_panes : MethodName × ByteArray × Nat × Option FieldType × List (Nat × Nat × Nat × Nat) := (⟨RLw, "panes", "(LGlassHall;II[J)I"⟩, method_16_code, 5, some Jvm.ClassFile.FieldType.int, [(0, 10, 13, 21), (0, 10, 17, 13)])
def m_Ha_panes : MethodName × ByteArray × Nat × Option FieldType × List (Nat × Nat × Nat × Nat) := (⟨RHa, "panes", "(II)I"⟩, prog_1_method_16_code, 4, some Jvm.ClassFile.FieldType.int, [])
def m_Mo_init : MethodName × ByteArray × Nat × Option FieldType × List (Nat × Nat × Nat × Nat) := (⟨RMo, "<init>", "()V"⟩, prog_12_method_1_code, 1, none, [])
def m_Mo_thrown : MethodName × ByteArray × Nat × Option FieldType × List (Nat × Nat × Nat × Nat) := (⟨RMo, "thrown", "()I"⟩, prog_12_method_2_code, 1, some Jvm.ClassFile.FieldType.int, [])
def m_Mo_sheet : MethodName × ByteArray × Nat × Option FieldType × List (Nat × Nat × Nat × Nat) := (⟨RMo, "sheet", "(II)I"⟩, prog_12_method_8_code, 3, some Jvm.ClassFile.FieldType.int, [])
def m_Mo_isLength : MethodName × ByteArray × Nat × Option FieldType × List (Nat × Nat × Nat × Nat) := (⟨RMo, "isLength", "(I)Z"⟩, prog_12_method_6_code, 1, some Jvm.ClassFile.FieldType.boolean, [])
def m_Mo_sheets : MethodName × ByteArray × Nat × Option FieldType × List (Nat × Nat × Nat × Nat) := (⟨RMo, "sheets", "()I"⟩, prog_12_method_4_code, 3, some Jvm.ClassFile.FieldType.int, [])
def m_Mo_make : MethodName × ByteArray × Nat × Option FieldType × List (Nat × Nat × Nat × Nat) := (⟨RMo, "make", "(II)I"⟩, prog_12_method_7_code, 4, some Jvm.ClassFile.FieldType.int, [])
def m_Mo_flaw : MethodName × ByteArray × Nat × Option FieldType × List (Nat × Nat × Nat × Nat) := (⟨RMo, "flaw", "(IIIII)I"⟩, prog_12_method_10_code, 8, some Jvm.ClassFile.FieldType.int, [])
def m_Mo_find : MethodName × ByteArray × Nat × Option FieldType × List (Nat × Nat × Nat × Nat) := (⟨RMo, "find", "(I)I"⟩, prog_12_method_3_code, 4, some Jvm.ClassFile.FieldType.int, [])
def m_Mo_putFlaw : MethodName × ByteArray × Nat × Option FieldType × List (Nat × Nat × Nat × Nat) := (⟨RMo, "putFlaw", "(IIIII)V"⟩, prog_12_method_9_code, 7, none, [])
def m_Mo_order : MethodName × ByteArray × Nat × Option FieldType × List (Nat × Nat × Nat × Nat) := (⟨RMo, "order", "(IIZI)I"⟩, prog_12_method_11_code, 6, some Jvm.ClassFile.FieldType.int, [])
def m_Mo_plan : MethodName × ByteArray × Nat × Option FieldType × List (Nat × Nat × Nat × Nat) := (⟨RMo, "plan", "(I)I"⟩, prog_12_method_32_code, 3, some Jvm.ClassFile.FieldType.int, [])
def m_Mo_strips : MethodName × ByteArray × Nat × Option FieldType × List (Nat × Nat × Nat × Nat) := (⟨RMo, "strips", "(I)V"⟩, prog_12_method_25_code, 9, none, [])
def m_Mo_choose : MethodName × ByteArray × Nat × Option FieldType × List (Nat × Nat × Nat × Nat) := (⟨RMo, "choose", "(III)I"⟩, prog_12_method_24_code, 8, some Jvm.ClassFile.FieldType.int, [])
def m_Mo_isPossible : MethodName × ByteArray × Nat × Option FieldType × List (Nat × Nat × Nat × Nat) := (⟨RMo, "isPossible", "(IIIIZ)Z"⟩, prog_12_method_22_code, 12, some Jvm.ClassFile.FieldType.boolean, [])
def m_Mo_meets : MethodName × ByteArray × Nat × Option FieldType × List (Nat × Nat × Nat × Nat) := (⟨RMo, "meets", "(IIIIII)Z"⟩, prog_12_method_21_code, 8, some Jvm.ClassFile.FieldType.boolean, [])
def m_Mo_overlap : MethodName × ByteArray × Nat × Option FieldType × List (Nat × Nat × Nat × Nat) := (⟨RMo, "overlap", "(IIII)Z"⟩, prog_12_method_20_code, 4, some Jvm.ClassFile.FieldType.boolean, [])
def m_Mo_isBefore : MethodName × ByteArray × Nat × Option FieldType × List (Nat × Nat × Nat × Nat) := (⟨RMo, "isBefore", "(II)Z"⟩, prog_12_method_23_code, 3, some Jvm.ClassFile.FieldType.boolean, [])
def m_Mo_lay : MethodName × ByteArray × Nat × Option FieldType × List (Nat × Nat × Nat × Nat) := (⟨RMo, "lay", "(IZII)V"⟩, prog_12_method_12_code, 5, none, [])
def m_Mo_adopt : MethodName × ByteArray × Nat × Option FieldType × List (Nat × Nat × Nat × Nat) := (⟨RMo, "adopt", "(I)I"⟩, prog_12_method_31_code, 3, some Jvm.ClassFile.FieldType.int, [])
def m_Mo_push : MethodName × ByteArray × Nat × Option FieldType × List (Nat × Nat × Nat × Nat) := (⟨RMo, "push", "(IIIII)V"⟩, prog_12_method_26_code, 6, none, [])
def m_Mo_at : MethodName × ByteArray × Nat × Option FieldType × List (Nat × Nat × Nat × Nat) := (⟨RMo, "at", "(IIII)V"⟩, prog_12_method_27_code, 5, none, [])
def m_Mo_grow : MethodName × ByteArray × Nat × Option FieldType × List (Nat × Nat × Nat × Nat) := (⟨RMo, "grow", "(I)V"⟩, prog_12_method_29_code, 9, none, [])
def m_Mo_reach : MethodName × ByteArray × Nat × Option FieldType × List (Nat × Nat × Nat × Nat) := (⟨RMo, "reach", "(IIII)I"⟩, prog_12_method_28_code, 6, some Jvm.ClassFile.FieldType.int, [])
def m_Mo_paneAt : MethodName × ByteArray × Nat × Option FieldType × List (Nat × Nat × Nat × Nat) := (⟨RMo, "paneAt", "(III)I"⟩, prog_12_method_13_code, 6, some Jvm.ClassFile.FieldType.int, [])
def m_Mo_columnWidth : MethodName × ByteArray × Nat × Option FieldType × List (Nat × Nat × Nat × Nat) := (⟨RMo, "columnWidth", "(I)I"⟩, prog_12_method_16_code, 5, some Jvm.ClassFile.FieldType.int, [])
def m_Mo_rowWidth : MethodName × ByteArray × Nat × Option FieldType × List (Nat × Nat × Nat × Nat) := (⟨RMo, "rowWidth", "(II)I"⟩, prog_12_method_14_code, 5, some Jvm.ClassFile.FieldType.int, [])
def m_Mo_rowHeight : MethodName × ByteArray × Nat × Option FieldType × List (Nat × Nat × Nat × Nat) := (⟨RMo, "rowHeight", "(II)I"⟩, prog_12_method_15_code, 6, some Jvm.ClassFile.FieldType.int, [])
def m_Mo_split : MethodName × ByteArray × Nat × Option FieldType × List (Nat × Nat × Nat × Nat) := (⟨RMo, "split", "(IIIIII)V"⟩, prog_12_method_30_code, 10, none, [])
def m_Mo_exact : MethodName × ByteArray × Nat × Option FieldType × List (Nat × Nat × Nat × Nat) := (⟨RMo, "exact", "(IIII)I"⟩, prog_12_method_36_code, 7, some Jvm.ClassFile.FieldType.int, [])
def m_Mo_isOrder : MethodName × ByteArray × Nat × Option FieldType × List (Nat × Nat × Nat × Nat) := (⟨RMo, "isOrder", "(I)Z"⟩, prog_12_method_5_code, 2, some Jvm.ClassFile.FieldType.boolean, [])
def m_Mo_hasOpen : MethodName × ByteArray × Nat × Option FieldType × List (Nat × Nat × Nat × Nat) := (⟨RMo, "hasOpen", "(III)Z"⟩, prog_12_method_35_code, 7, some Jvm.ClassFile.FieldType.boolean, [])
def m_Mo_isFound : MethodName × ByteArray × Nat × Option FieldType × List (Nat × Nat × Nat × Nat) := (⟨RMo, "isFound", "(IIII)Z"⟩, prog_12_method_34_code, 9, some Jvm.ClassFile.FieldType.boolean, [])
def m_Mo_name : MethodName × ByteArray × Nat × Option FieldType × List (Nat × Nat × Nat × Nat) := (⟨RMo, "name", "(II)Z"⟩, prog_12_method_33_code, 6, some Jvm.ClassFile.FieldType.boolean, [])
def m_Mo_columns : MethodName × ByteArray × Nat × Option FieldType × List (Nat × Nat × Nat × Nat) := (⟨RMo, "columns", "()I"⟩, prog_12_method_18_code, 3, some Jvm.ClassFile.FieldType.int, [])
def m_Mo_rowsOf : MethodName × ByteArray × Nat × Option FieldType × List (Nat × Nat × Nat × Nat) := (⟨RMo, "rowsOf", "(I)I"⟩, prog_12_method_17_code, 4, some Jvm.ClassFile.FieldType.int, [])
def m_Mo_fits : MethodName × ByteArray × Nat × Option FieldType × List (Nat × Nat × Nat × Nat) := (⟨RMo, "fits", "(I)Z"⟩, prog_12_method_19_code, 6, some Jvm.ClassFile.FieldType.boolean, [])
def m_Mo_score : MethodName × ByteArray × Nat × Option FieldType × List (Nat × Nat × Nat × Nat) := (⟨RMo, "score", "(I)I"⟩, prog_12_method_40_code, 5, some Jvm.ClassFile.FieldType.int, [])
def m_Mo_arrive : MethodName × ByteArray × Nat × Option FieldType × List (Nat × Nat × Nat × Nat) := (⟨RMo, "arrive", "(II)V"⟩, prog_12_method_38_code, 5, none, [])
def m_Mo_store : MethodName × ByteArray × Nat × Option FieldType × List (Nat × Nat × Nat × Nat) := (⟨RMo, "store", "(II)V"⟩, prog_12_method_37_code, 11, none, [])
def m_Mo_leave : MethodName × ByteArray × Nat × Option FieldType × List (Nat × Nat × Nat × Nat) := (⟨RMo, "leave", "(I)V"⟩, prog_12_method_39_code, 4, none, [])
def m_Mo_broke : MethodName × ByteArray × Nat × Option FieldType × List (Nat × Nat × Nat × Nat) := (⟨RMo, "broke", "(II)I"⟩, prog_12_method_41_code, 9, some Jvm.ClassFile.FieldType.int, [])
def m_Mo_cancel : MethodName × ByteArray × Nat × Option FieldType × List (Nat × Nat × Nat × Nat) := (⟨RMo, "cancel", "(I)I"⟩, prog_12_method_42_code, 6, some Jvm.ClassFile.FieldType.int, [])
def m_Mo_nodes : MethodName × ByteArray × Nat × Option FieldType × List (Nat × Nat × Nat × Nat) := (⟨RMo, "nodes", "(I)I"⟩, prog_12_method_43_code, 3, some Jvm.ClassFile.FieldType.int, [])
def m_Mo_node : MethodName × ByteArray × Nat × Option FieldType × List (Nat × Nat × Nat × Nat) := (⟨RMo, "node", "(III)I"⟩, prog_12_method_44_code, 6, some Jvm.ClassFile.FieldType.int, [])
def m_Mo_use : MethodName × ByteArray × Nat × Option FieldType × List (Nat × Nat × Nat × Nat) := (⟨RMo, "use", "(I)I"⟩, prog_12_method_47_code, 5, some Jvm.ClassFile.FieldType.int, [])
def m_Mo_isOffcut : MethodName × ByteArray × Nat × Option FieldType × List (Nat × Nat × Nat × Nat) := (⟨RMo, "isOffcut", "(I)Z"⟩, prog_12_method_45_code, 2, some Jvm.ClassFile.FieldType.boolean, [])
def m_Mo_moveOffcut : MethodName × ByteArray × Nat × Option FieldType × List (Nat × Nat × Nat × Nat) := (⟨RMo, "moveOffcut", "(II)V"⟩, prog_12_method_46_code, 4, none, [])
def m_Mo_rack : MethodName × ByteArray × Nat × Option FieldType × List (Nat × Nat × Nat × Nat) := (⟨RMo, "rack", "(II)I"⟩, prog_12_method_48_code, 3, some Jvm.ClassFile.FieldType.int, [])
def m_Mo_fit : MethodName × ByteArray × Nat × Option FieldType × List (Nat × Nat × Nat × Nat) := (⟨RMo, "fit", "(II)I"⟩, prog_12_method_49_code, 7, some Jvm.ClassFile.FieldType.int, [])
def m_Mo_flawed : MethodName × ByteArray × Nat × Option FieldType × List (Nat × Nat × Nat × Nat) := (⟨RMo, "flawed", "(III)I"⟩, prog_12_method_50_code, 5, some Jvm.ClassFile.FieldType.int, [])
def m_Mo_panes : MethodName × ByteArray × Nat × Option FieldType × List (Nat × Nat × Nat × Nat) := (⟨RMo, "panes", "(II)I"⟩, prog_12_method_51_code, 3, some Jvm.ClassFile.FieldType.int, [])
def m_Mo_area : MethodName × ByteArray × Nat × Option FieldType × List (Nat × Nat × Nat × Nat) := (⟨RMo, "area", "(I)J"⟩, prog_12_method_52_code, 9, some Jvm.ClassFile.FieldType.long, [])
def m_Mo_total : MethodName × ByteArray × Nat × Option FieldType × List (Nat × Nat × Nat × Nat) := (⟨RMo, "total", "(I)I"⟩, prog_12_method_53_code, 4, some Jvm.ClassFile.FieldType.int, [])
def m_Lw_law : MethodName × ByteArray × Nat × Option FieldType × List (Nat × Nat × Nat × Nat) := (⟨RLw, "law", "([I)Z"⟩, code, 7, some Jvm.ClassFile.FieldType.boolean, [])
end
section
theorem d_Ha_init_0 : decode m_Ha_init.2.1 0 = .ok (.aload_n 0, 1) := by decide +kernel
theorem d_Ha_init_1 : decode m_Ha_init.2.1 1 = .ok (.invokespecial 3, 3) := by decide +kernel
theorem d_Ha_init_4 : decode m_Ha_init.2.1 4 = .ok (.aload_n 0, 1) := by decide +kernel
theorem d_Ha_init_5 : decode m_Ha_init.2.1 5 = .ok (.bipush 8, 2) := by decide +kernel
theorem d_Ha_init_7 : decode m_Ha_init.2.1 7 = .ok (.anewarray 9, 3) := by decide +kernel
theorem d_Ha_init_10 : decode m_Ha_init.2.1 10 = .ok (.putfield 11, 3) := by decide +kernel
theorem d_Ha_init_13 : decode m_Ha_init.2.1 13 = .ok (.aload_n 0, 1) := by decide +kernel
theorem d_Ha_init_14 : decode m_Ha_init.2.1 14 = .ok (.new 15, 3) := by decide +kernel
theorem d_Ha_init_17 : decode m_Ha_init.2.1 17 = .ok (.dup, 1) := by decide +kernel
theorem d_Ha_init_18 : decode m_Ha_init.2.1 18 = .ok (.invokespecial 17, 3) := by decide +kernel
theorem d_Ha_init_21 : decode m_Ha_init.2.1 21 = .ok (.putfield 18, 3) := by decide +kernel
theorem d_Ha_init_24 : decode m_Ha_init.2.1 24 = .ok (.aload_n 0, 1) := by decide +kernel
theorem d_Ha_init_25 : decode m_Ha_init.2.1 25 = .ok (.new 22, 3) := by decide +kernel
theorem d_Ha_init_28 : decode m_Ha_init.2.1 28 = .ok (.dup, 1) := by decide +kernel
theorem d_Ha_init_29 : decode m_Ha_init.2.1 29 = .ok (.invokespecial 24, 3) := by decide +kernel
theorem d_Ha_init_32 : decode m_Ha_init.2.1 32 = .ok (.putfield 25, 3) := by decide +kernel
theorem d_Ha_init_35 : decode m_Ha_init.2.1 35 = .ok (.aload_n 0, 1) := by decide +kernel
theorem d_Ha_init_36 : decode m_Ha_init.2.1 36 = .ok (.new 29, 3) := by decide +kernel
theorem d_Ha_init_39 : decode m_Ha_init.2.1 39 = .ok (.dup, 1) := by decide +kernel
theorem d_Ha_init_40 : decode m_Ha_init.2.1 40 = .ok (.invokespecial 31, 3) := by decide +kernel
theorem d_Ha_init_43 : decode m_Ha_init.2.1 43 = .ok (.putfield 32, 3) := by decide +kernel
theorem d_Ha_init_46 : decode m_Ha_init.2.1 46 = .ok (.aload_n 0, 1) := by decide +kernel
theorem d_Ha_init_47 : decode m_Ha_init.2.1 47 = .ok (.new 36, 3) := by decide +kernel
theorem d_Ha_init_50 : decode m_Ha_init.2.1 50 = .ok (.dup, 1) := by decide +kernel
theorem d_Ha_init_51 : decode m_Ha_init.2.1 51 = .ok (.aload_n 0, 1) := by decide +kernel
theorem d_Ha_init_52 : decode m_Ha_init.2.1 52 = .ok (.getfield 18, 3) := by decide +kernel
theorem d_Ha_init_55 : decode m_Ha_init.2.1 55 = .ok (.aload_n 0, 1) := by decide +kernel
theorem d_Ha_init_56 : decode m_Ha_init.2.1 56 = .ok (.getfield 32, 3) := by decide +kernel
theorem d_Ha_init_59 : decode m_Ha_init.2.1 59 = .ok (.invokespecial 38, 3) := by decide +kernel
theorem d_Ha_init_62 : decode m_Ha_init.2.1 62 = .ok (.putfield 41, 3) := by decide +kernel
theorem d_Ha_init_65 : decode m_Ha_init.2.1 65 = .ok (.aload_n 0, 1) := by decide +kernel
theorem d_Ha_init_66 : decode m_Ha_init.2.1 66 = .ok (.new 45, 3) := by decide +kernel
theorem d_Ha_init_69 : decode m_Ha_init.2.1 69 = .ok (.dup, 1) := by decide +kernel
theorem d_Ha_init_70 : decode m_Ha_init.2.1 70 = .ok (.aload_n 0, 1) := by decide +kernel
theorem d_Ha_init_71 : decode m_Ha_init.2.1 71 = .ok (.getfield 18, 3) := by decide +kernel
theorem d_Ha_init_74 : decode m_Ha_init.2.1 74 = .ok (.aload_n 0, 1) := by decide +kernel
theorem d_Ha_init_75 : decode m_Ha_init.2.1 75 = .ok (.getfield 32, 3) := by decide +kernel
theorem d_Ha_init_78 : decode m_Ha_init.2.1 78 = .ok (.invokespecial 47, 3) := by decide +kernel
theorem d_Ha_init_81 : decode m_Ha_init.2.1 81 = .ok (.putfield 48, 3) := by decide +kernel
theorem d_Ha_init_84 : decode m_Ha_init.2.1 84 = .ok (.iconst 0, 1) := by decide +kernel
theorem d_Ha_init_85 : decode m_Ha_init.2.1 85 = .ok (.istore_n 1, 1) := by decide +kernel
theorem d_Ha_init_86 : decode m_Ha_init.2.1 86 = .ok (.iload_n 1, 1) := by decide +kernel
theorem d_Ha_init_87 : decode m_Ha_init.2.1 87 = .ok (.bipush 8, 2) := by decide +kernel
theorem d_Ha_init_89 : decode m_Ha_init.2.1 89 = .ok (.if_icmp .ge 22, 3) := by decide +kernel
theorem d_Ha_init_92 : decode m_Ha_init.2.1 92 = .ok (.aload_n 0, 1) := by decide +kernel
theorem d_Ha_init_93 : decode m_Ha_init.2.1 93 = .ok (.getfield 11, 3) := by decide +kernel
theorem d_Ha_init_96 : decode m_Ha_init.2.1 96 = .ok (.iload_n 1, 1) := by decide +kernel
theorem d_Ha_init_97 : decode m_Ha_init.2.1 97 = .ok (.new 9, 3) := by decide +kernel
theorem d_Ha_init_100 : decode m_Ha_init.2.1 100 = .ok (.dup, 1) := by decide +kernel
theorem d_Ha_init_101 : decode m_Ha_init.2.1 101 = .ok (.invokespecial 52, 3) := by decide +kernel
theorem d_Ha_init_104 : decode m_Ha_init.2.1 104 = .ok (.aastore, 1) := by decide +kernel
theorem d_Ha_init_105 : decode m_Ha_init.2.1 105 = .ok (.iinc 1 1, 3) := by decide +kernel
theorem d_Ha_init_108 : decode m_Ha_init.2.1 108 = .ok (.goto (-22), 3) := by decide +kernel
theorem d_Ha_init_111 : decode m_Ha_init.2.1 111 = .ok (.return_, 1) := by decide +kernel
theorem d_Bk_init_0 : decode m_Bk_init.2.1 0 = .ok (.aload_n 0, 1) := by decide +kernel
theorem d_Bk_init_1 : decode m_Bk_init.2.1 1 = .ok (.invokespecial 3, 3) := by decide +kernel
theorem d_Bk_init_4 : decode m_Bk_init.2.1 4 = .ok (.aload_n 0, 1) := by decide +kernel
theorem d_Bk_init_5 : decode m_Bk_init.2.1 5 = .ok (.bipush 6, 2) := by decide +kernel
theorem d_Bk_init_7 : decode m_Bk_init.2.1 7 = .ok (.anewarray 9, 3) := by decide +kernel
theorem d_Bk_init_10 : decode m_Bk_init.2.1 10 = .ok (.putfield 11, 3) := by decide +kernel
theorem d_Bk_init_13 : decode m_Bk_init.2.1 13 = .ok (.aload_n 0, 1) := by decide +kernel
theorem d_Bk_init_14 : decode m_Bk_init.2.1 14 = .ok (.bipush 6, 2) := by decide +kernel
theorem d_Bk_init_16 : decode m_Bk_init.2.1 16 = .ok (.newarray .int, 2) := by decide +kernel
theorem d_Bk_init_18 : decode m_Bk_init.2.1 18 = .ok (.putfield 17, 3) := by decide +kernel
theorem d_Bk_init_21 : decode m_Bk_init.2.1 21 = .ok (.return_, 1) := by decide +kernel
theorem d_Rk_init_0 : decode m_Rk_init.2.1 0 = .ok (.aload_n 0, 1) := by decide +kernel
theorem d_Rk_init_1 : decode m_Rk_init.2.1 1 = .ok (.invokespecial 3, 3) := by decide +kernel
theorem d_Rk_init_4 : decode m_Rk_init.2.1 4 = .ok (.aload_n 0, 1) := by decide +kernel
theorem d_Rk_init_5 : decode m_Rk_init.2.1 5 = .ok (.bipush 10, 2) := by decide +kernel
theorem d_Rk_init_7 : decode m_Rk_init.2.1 7 = .ok (.anewarray 9, 3) := by decide +kernel
theorem d_Rk_init_10 : decode m_Rk_init.2.1 10 = .ok (.putfield 11, 3) := by decide +kernel
theorem d_Rk_init_13 : decode m_Rk_init.2.1 13 = .ok (.iconst 0, 1) := by decide +kernel
theorem d_Rk_init_14 : decode m_Rk_init.2.1 14 = .ok (.istore_n 1, 1) := by decide +kernel
theorem d_Rk_init_15 : decode m_Rk_init.2.1 15 = .ok (.iload_n 1, 1) := by decide +kernel
theorem d_Rk_init_16 : decode m_Rk_init.2.1 16 = .ok (.bipush 10, 2) := by decide +kernel
theorem d_Rk_init_18 : decode m_Rk_init.2.1 18 = .ok (.if_icmp .ge 22, 3) := by decide +kernel
theorem d_Rk_init_21 : decode m_Rk_init.2.1 21 = .ok (.aload_n 0, 1) := by decide +kernel
theorem d_Rk_init_22 : decode m_Rk_init.2.1 22 = .ok (.getfield 11, 3) := by decide +kernel
theorem d_Rk_init_25 : decode m_Rk_init.2.1 25 = .ok (.iload_n 1, 1) := by decide +kernel
theorem d_Rk_init_26 : decode m_Rk_init.2.1 26 = .ok (.new 9, 3) := by decide +kernel
theorem d_Rk_init_29 : decode m_Rk_init.2.1 29 = .ok (.dup, 1) := by decide +kernel
theorem d_Rk_init_30 : decode m_Rk_init.2.1 30 = .ok (.invokespecial 17, 3) := by decide +kernel
theorem d_Rk_init_33 : decode m_Rk_init.2.1 33 = .ok (.aastore, 1) := by decide +kernel
theorem d_Rk_init_34 : decode m_Rk_init.2.1 34 = .ok (.iinc 1 1, 3) := by decide +kernel
theorem d_Rk_init_37 : decode m_Rk_init.2.1 37 = .ok (.goto (-22), 3) := by decide +kernel
theorem d_Rk_init_40 : decode m_Rk_init.2.1 40 = .ok (.return_, 1) := by decide +kernel
theorem d_Gl_init_0 : decode m_Gl_init.2.1 0 = .ok (.aload_n 0, 1) := by decide +kernel
theorem d_Gl_init_1 : decode m_Gl_init.2.1 1 = .ok (.invokespecial 3, 3) := by decide +kernel
theorem d_Gl_init_4 : decode m_Gl_init.2.1 4 = .ok (.aload_n 0, 1) := by decide +kernel
theorem d_Gl_init_5 : decode m_Gl_init.2.1 5 = .ok (.bipush 6, 2) := by decide +kernel
theorem d_Gl_init_7 : decode m_Gl_init.2.1 7 = .ok (.newarray .int, 2) := by decide +kernel
theorem d_Gl_init_9 : decode m_Gl_init.2.1 9 = .ok (.putfield 9, 3) := by decide +kernel
theorem d_Gl_init_12 : decode m_Gl_init.2.1 12 = .ok (.aload_n 0, 1) := by decide +kernel
theorem d_Gl_init_13 : decode m_Gl_init.2.1 13 = .ok (.bipush 6, 2) := by decide +kernel
theorem d_Gl_init_15 : decode m_Gl_init.2.1 15 = .ok (.newarray .int, 2) := by decide +kernel
theorem d_Gl_init_17 : decode m_Gl_init.2.1 17 = .ok (.putfield 15, 3) := by decide +kernel
theorem d_Gl_init_20 : decode m_Gl_init.2.1 20 = .ok (.aload_n 0, 1) := by decide +kernel
theorem d_Gl_init_21 : decode m_Gl_init.2.1 21 = .ok (.bipush 6, 2) := by decide +kernel
theorem d_Gl_init_23 : decode m_Gl_init.2.1 23 = .ok (.newarray .int, 2) := by decide +kernel
theorem d_Gl_init_25 : decode m_Gl_init.2.1 25 = .ok (.putfield 18, 3) := by decide +kernel
theorem d_Gl_init_28 : decode m_Gl_init.2.1 28 = .ok (.aload_n 0, 1) := by decide +kernel
theorem d_Gl_init_29 : decode m_Gl_init.2.1 29 = .ok (.bipush 6, 2) := by decide +kernel
theorem d_Gl_init_31 : decode m_Gl_init.2.1 31 = .ok (.newarray .int, 2) := by decide +kernel
theorem d_Gl_init_33 : decode m_Gl_init.2.1 33 = .ok (.putfield 21, 3) := by decide +kernel
theorem d_Gl_init_36 : decode m_Gl_init.2.1 36 = .ok (.return_, 1) := by decide +kernel
theorem d_La_init_0 : decode m_La_init.2.1 0 = .ok (.aload_n 0, 1) := by decide +kernel
theorem d_La_init_1 : decode m_La_init.2.1 1 = .ok (.invokespecial 3, 3) := by decide +kernel
theorem d_La_init_4 : decode m_La_init.2.1 4 = .ok (.aload_n 0, 1) := by decide +kernel
theorem d_La_init_5 : decode m_La_init.2.1 5 = .ok (.bipush 36, 2) := by decide +kernel
theorem d_La_init_7 : decode m_La_init.2.1 7 = .ok (.newarray .int, 2) := by decide +kernel
theorem d_La_init_9 : decode m_La_init.2.1 9 = .ok (.putfield 9, 3) := by decide +kernel
theorem d_La_init_12 : decode m_La_init.2.1 12 = .ok (.aload_n 0, 1) := by decide +kernel
theorem d_La_init_13 : decode m_La_init.2.1 13 = .ok (.bipush 36, 2) := by decide +kernel
theorem d_La_init_15 : decode m_La_init.2.1 15 = .ok (.newarray .int, 2) := by decide +kernel
theorem d_La_init_17 : decode m_La_init.2.1 17 = .ok (.putfield 15, 3) := by decide +kernel
theorem d_La_init_20 : decode m_La_init.2.1 20 = .ok (.aload_n 0, 1) := by decide +kernel
theorem d_La_init_21 : decode m_La_init.2.1 21 = .ok (.bipush 36, 2) := by decide +kernel
theorem d_La_init_23 : decode m_La_init.2.1 23 = .ok (.newarray .int, 2) := by decide +kernel
theorem d_La_init_25 : decode m_La_init.2.1 25 = .ok (.putfield 18, 3) := by decide +kernel
theorem d_La_init_28 : decode m_La_init.2.1 28 = .ok (.aload_n 0, 1) := by decide +kernel
theorem d_La_init_29 : decode m_La_init.2.1 29 = .ok (.bipush 36, 2) := by decide +kernel
theorem d_La_init_31 : decode m_La_init.2.1 31 = .ok (.newarray .int, 2) := by decide +kernel
theorem d_La_init_33 : decode m_La_init.2.1 33 = .ok (.putfield 21, 3) := by decide +kernel
theorem d_La_init_36 : decode m_La_init.2.1 36 = .ok (.aload_n 0, 1) := by decide +kernel
theorem d_La_init_37 : decode m_La_init.2.1 37 = .ok (.bipush 36, 2) := by decide +kernel
theorem d_La_init_39 : decode m_La_init.2.1 39 = .ok (.newarray .int, 2) := by decide +kernel
theorem d_La_init_41 : decode m_La_init.2.1 41 = .ok (.putfield 24, 3) := by decide +kernel
theorem d_La_init_44 : decode m_La_init.2.1 44 = .ok (.return_, 1) := by decide +kernel
theorem d_St_init_0 : decode m_St_init.2.1 0 = .ok (.aload_n 0, 1) := by decide +kernel
theorem d_St_init_1 : decode m_St_init.2.1 1 = .ok (.invokespecial 3, 3) := by decide +kernel
theorem d_St_init_4 : decode m_St_init.2.1 4 = .ok (.aload_n 0, 1) := by decide +kernel
theorem d_St_init_5 : decode m_St_init.2.1 5 = .ok (.aload_n 1, 1) := by decide +kernel
theorem d_St_init_6 : decode m_St_init.2.1 6 = .ok (.putfield 9, 3) := by decide +kernel
theorem d_St_init_9 : decode m_St_init.2.1 9 = .ok (.aload_n 0, 1) := by decide +kernel
theorem d_St_init_10 : decode m_St_init.2.1 10 = .ok (.aload_n 2, 1) := by decide +kernel
theorem d_St_init_11 : decode m_St_init.2.1 11 = .ok (.putfield 15, 3) := by decide +kernel
theorem d_St_init_14 : decode m_St_init.2.1 14 = .ok (.return_, 1) := by decide +kernel
theorem d_Ti_init_0 : decode m_Ti_init.2.1 0 = .ok (.aload_n 0, 1) := by decide +kernel
theorem d_Ti_init_1 : decode m_Ti_init.2.1 1 = .ok (.invokespecial 3, 3) := by decide +kernel
theorem d_Ti_init_4 : decode m_Ti_init.2.1 4 = .ok (.aload_n 0, 1) := by decide +kernel
theorem d_Ti_init_5 : decode m_Ti_init.2.1 5 = .ok (.iconst 3, 1) := by decide +kernel
theorem d_Ti_init_6 : decode m_Ti_init.2.1 6 = .ok (.newarray .int, 2) := by decide +kernel
theorem d_Ti_init_8 : decode m_Ti_init.2.1 8 = .ok (.putfield 9, 3) := by decide +kernel
theorem d_Ti_init_11 : decode m_Ti_init.2.1 11 = .ok (.aload_n 0, 1) := by decide +kernel
theorem d_Ti_init_12 : decode m_Ti_init.2.1 12 = .ok (.aload_n 1, 1) := by decide +kernel
theorem d_Ti_init_13 : decode m_Ti_init.2.1 13 = .ok (.putfield 15, 3) := by decide +kernel
theorem d_Ti_init_16 : decode m_Ti_init.2.1 16 = .ok (.aload_n 0, 1) := by decide +kernel
theorem d_Ti_init_17 : decode m_Ti_init.2.1 17 = .ok (.aload_n 2, 1) := by decide +kernel
theorem d_Ti_init_18 : decode m_Ti_init.2.1 18 = .ok (.putfield 19, 3) := by decide +kernel
theorem d_Ti_init_21 : decode m_Ti_init.2.1 21 = .ok (.return_, 1) := by decide +kernel
theorem d_Sh_init_0 : decode m_Sh_init.2.1 0 = .ok (.aload_n 0, 1) := by decide +kernel
theorem d_Sh_init_1 : decode m_Sh_init.2.1 1 = .ok (.invokespecial 1, 3) := by decide +kernel
theorem d_Sh_init_4 : decode m_Sh_init.2.1 4 = .ok (.aload_n 0, 1) := by decide +kernel
theorem d_Sh_init_5 : decode m_Sh_init.2.1 5 = .ok (.new 7, 3) := by decide +kernel
theorem d_Sh_init_8 : decode m_Sh_init.2.1 8 = .ok (.dup, 1) := by decide +kernel
theorem d_Sh_init_9 : decode m_Sh_init.2.1 9 = .ok (.invokespecial 9, 3) := by decide +kernel
theorem d_Sh_init_12 : decode m_Sh_init.2.1 12 = .ok (.putfield 10, 3) := by decide +kernel
theorem d_Sh_init_15 : decode m_Sh_init.2.1 15 = .ok (.aload_n 0, 1) := by decide +kernel
theorem d_Sh_init_16 : decode m_Sh_init.2.1 16 = .ok (.new 16, 3) := by decide +kernel
theorem d_Sh_init_19 : decode m_Sh_init.2.1 19 = .ok (.dup, 1) := by decide +kernel
theorem d_Sh_init_20 : decode m_Sh_init.2.1 20 = .ok (.invokespecial 18, 3) := by decide +kernel
theorem d_Sh_init_23 : decode m_Sh_init.2.1 23 = .ok (.putfield 19, 3) := by decide +kernel
theorem d_Sh_init_26 : decode m_Sh_init.2.1 26 = .ok (.return_, 1) := by decide +kernel
theorem d_Tr_init_0 : decode m_Tr_init.2.1 0 = .ok (.aload_n 0, 1) := by decide +kernel
theorem d_Tr_init_1 : decode m_Tr_init.2.1 1 = .ok (.invokespecial 3, 3) := by decide +kernel
theorem d_Tr_init_4 : decode m_Tr_init.2.1 4 = .ok (.aload_n 0, 1) := by decide +kernel
theorem d_Tr_init_5 : decode m_Tr_init.2.1 5 = .ok (.sipush 145, 3) := by decide +kernel
theorem d_Tr_init_8 : decode m_Tr_init.2.1 8 = .ok (.newarray .int, 2) := by decide +kernel
theorem d_Tr_init_10 : decode m_Tr_init.2.1 10 = .ok (.putfield 9, 3) := by decide +kernel
theorem d_Tr_init_13 : decode m_Tr_init.2.1 13 = .ok (.aload_n 0, 1) := by decide +kernel
theorem d_Tr_init_14 : decode m_Tr_init.2.1 14 = .ok (.sipush 145, 3) := by decide +kernel
theorem d_Tr_init_17 : decode m_Tr_init.2.1 17 = .ok (.newarray .int, 2) := by decide +kernel
theorem d_Tr_init_19 : decode m_Tr_init.2.1 19 = .ok (.putfield 15, 3) := by decide +kernel
theorem d_Tr_init_22 : decode m_Tr_init.2.1 22 = .ok (.aload_n 0, 1) := by decide +kernel
theorem d_Tr_init_23 : decode m_Tr_init.2.1 23 = .ok (.sipush 145, 3) := by decide +kernel
theorem d_Tr_init_26 : decode m_Tr_init.2.1 26 = .ok (.newarray .int, 2) := by decide +kernel
theorem d_Tr_init_28 : decode m_Tr_init.2.1 28 = .ok (.putfield 18, 3) := by decide +kernel
theorem d_Tr_init_31 : decode m_Tr_init.2.1 31 = .ok (.aload_n 0, 1) := by decide +kernel
theorem d_Tr_init_32 : decode m_Tr_init.2.1 32 = .ok (.sipush 145, 3) := by decide +kernel
theorem d_Tr_init_35 : decode m_Tr_init.2.1 35 = .ok (.newarray .int, 2) := by decide +kernel
theorem d_Tr_init_37 : decode m_Tr_init.2.1 37 = .ok (.putfield 21, 3) := by decide +kernel
theorem d_Tr_init_40 : decode m_Tr_init.2.1 40 = .ok (.aload_n 0, 1) := by decide +kernel
theorem d_Tr_init_41 : decode m_Tr_init.2.1 41 = .ok (.sipush 145, 3) := by decide +kernel
theorem d_Tr_init_44 : decode m_Tr_init.2.1 44 = .ok (.newarray .int, 2) := by decide +kernel
theorem d_Tr_init_46 : decode m_Tr_init.2.1 46 = .ok (.putfield 24, 3) := by decide +kernel
theorem d_Tr_init_49 : decode m_Tr_init.2.1 49 = .ok (.aload_n 0, 1) := by decide +kernel
theorem d_Tr_init_50 : decode m_Tr_init.2.1 50 = .ok (.sipush 145, 3) := by decide +kernel
theorem d_Tr_init_53 : decode m_Tr_init.2.1 53 = .ok (.newarray .int, 2) := by decide +kernel
theorem d_Tr_init_55 : decode m_Tr_init.2.1 55 = .ok (.putfield 27, 3) := by decide +kernel
theorem d_Tr_init_58 : decode m_Tr_init.2.1 58 = .ok (.aload_n 0, 1) := by decide +kernel
theorem d_Tr_init_59 : decode m_Tr_init.2.1 59 = .ok (.sipush 145, 3) := by decide +kernel
theorem d_Tr_init_62 : decode m_Tr_init.2.1 62 = .ok (.newarray .int, 2) := by decide +kernel
theorem d_Tr_init_64 : decode m_Tr_init.2.1 64 = .ok (.putfield 30, 3) := by decide +kernel
theorem d_Tr_init_67 : decode m_Tr_init.2.1 67 = .ok (.aload_n 0, 1) := by decide +kernel
theorem d_Tr_init_68 : decode m_Tr_init.2.1 68 = .ok (.sipush 145, 3) := by decide +kernel
theorem d_Tr_init_71 : decode m_Tr_init.2.1 71 = .ok (.newarray .int, 2) := by decide +kernel
theorem d_Tr_init_73 : decode m_Tr_init.2.1 73 = .ok (.putfield 33, 3) := by decide +kernel
theorem d_Tr_init_76 : decode m_Tr_init.2.1 76 = .ok (.return_, 1) := by decide +kernel
theorem d_Ha_fit_0 : decode m_Ha_fit.2.1 0 = .ok (.aload_n 0, 1) := by decide +kernel
theorem d_Ha_fit_1 : decode m_Ha_fit.2.1 1 = .ok (.getfield 25, 3) := by decide +kernel
theorem d_Ha_fit_4 : decode m_Ha_fit.2.1 4 = .ok (.iload_n 1, 1) := by decide +kernel
theorem d_Ha_fit_5 : decode m_Ha_fit.2.1 5 = .ok (.iload_n 2, 1) := by decide +kernel
theorem d_Ha_fit_6 : decode m_Ha_fit.2.1 6 = .ok (.invokevirtual 218, 3) := by decide +kernel
theorem d_Ha_fit_9 : decode m_Ha_fit.2.1 9 = .ok (.ireturn, 1) := by decide +kernel
theorem d_Rk_smallestFor_0 : decode m_Rk_smallestFor.2.1 0 = .ok (.iconst (-1), 1) := by decide +kernel
theorem d_Rk_smallestFor_1 : decode m_Rk_smallestFor.2.1 1 = .ok (.istore_n 3, 1) := by decide +kernel
theorem d_Rk_smallestFor_2 : decode m_Rk_smallestFor.2.1 2 = .ok (.iconst 0, 1) := by decide +kernel
theorem d_Rk_smallestFor_3 : decode m_Rk_smallestFor.2.1 3 = .ok (.istore 4, 2) := by decide +kernel
theorem d_Rk_smallestFor_5 : decode m_Rk_smallestFor.2.1 5 = .ok (.iload 4, 2) := by decide +kernel
theorem d_Rk_smallestFor_7 : decode m_Rk_smallestFor.2.1 7 = .ok (.aload_n 0, 1) := by decide +kernel
theorem d_Rk_smallestFor_8 : decode m_Rk_smallestFor.2.1 8 = .ok (.getfield 18, 3) := by decide +kernel
theorem d_Rk_smallestFor_11 : decode m_Rk_smallestFor.2.1 11 = .ok (.if_icmp .ge 104, 3) := by decide +kernel
theorem d_Rk_smallestFor_14 : decode m_Rk_smallestFor.2.1 14 = .ok (.aload_n 0, 1) := by decide +kernel
theorem d_Rk_smallestFor_15 : decode m_Rk_smallestFor.2.1 15 = .ok (.getfield 11, 3) := by decide +kernel
theorem d_Rk_smallestFor_18 : decode m_Rk_smallestFor.2.1 18 = .ok (.iload 4, 2) := by decide +kernel
theorem d_Rk_smallestFor_20 : decode m_Rk_smallestFor.2.1 20 = .ok (.aaload, 1) := by decide +kernel
theorem d_Rk_smallestFor_21 : decode m_Rk_smallestFor.2.1 21 = .ok (.astore 5, 2) := by decide +kernel
theorem d_Rk_smallestFor_23 : decode m_Rk_smallestFor.2.1 23 = .ok (.aload 5, 2) := by decide +kernel
theorem d_Rk_smallestFor_25 : decode m_Rk_smallestFor.2.1 25 = .ok (.getfield 30, 3) := by decide +kernel
theorem d_Rk_smallestFor_28 : decode m_Rk_smallestFor.2.1 28 = .ok (.iload_n 1, 1) := by decide +kernel
theorem d_Rk_smallestFor_29 : decode m_Rk_smallestFor.2.1 29 = .ok (.if_icmp .lt 16, 3) := by decide +kernel
theorem d_Rk_smallestFor_32 : decode m_Rk_smallestFor.2.1 32 = .ok (.aload 5, 2) := by decide +kernel
theorem d_Rk_smallestFor_34 : decode m_Rk_smallestFor.2.1 34 = .ok (.getfield 33, 3) := by decide +kernel
theorem d_Rk_smallestFor_37 : decode m_Rk_smallestFor.2.1 37 = .ok (.iload_n 2, 1) := by decide +kernel
theorem d_Rk_smallestFor_38 : decode m_Rk_smallestFor.2.1 38 = .ok (.if_icmp .lt 7, 3) := by decide +kernel
theorem d_Rk_smallestFor_41 : decode m_Rk_smallestFor.2.1 41 = .ok (.iconst 1, 1) := by decide +kernel
theorem d_Rk_smallestFor_42 : decode m_Rk_smallestFor.2.1 42 = .ok (.goto 4, 3) := by decide +kernel
theorem d_Rk_smallestFor_45 : decode m_Rk_smallestFor.2.1 45 = .ok (.iconst 0, 1) := by decide +kernel
theorem d_Rk_smallestFor_46 : decode m_Rk_smallestFor.2.1 46 = .ok (.istore 6, 2) := by decide +kernel
theorem d_Rk_smallestFor_48 : decode m_Rk_smallestFor.2.1 48 = .ok (.aload 5, 2) := by decide +kernel
theorem d_Rk_smallestFor_50 : decode m_Rk_smallestFor.2.1 50 = .ok (.getfield 30, 3) := by decide +kernel
theorem d_Rk_smallestFor_53 : decode m_Rk_smallestFor.2.1 53 = .ok (.iload_n 2, 1) := by decide +kernel
theorem d_Rk_smallestFor_54 : decode m_Rk_smallestFor.2.1 54 = .ok (.if_icmp .lt 16, 3) := by decide +kernel
theorem d_Rk_smallestFor_57 : decode m_Rk_smallestFor.2.1 57 = .ok (.aload 5, 2) := by decide +kernel
theorem d_Rk_smallestFor_59 : decode m_Rk_smallestFor.2.1 59 = .ok (.getfield 33, 3) := by decide +kernel
theorem d_Rk_smallestFor_62 : decode m_Rk_smallestFor.2.1 62 = .ok (.iload_n 1, 1) := by decide +kernel
theorem d_Rk_smallestFor_63 : decode m_Rk_smallestFor.2.1 63 = .ok (.if_icmp .lt 7, 3) := by decide +kernel
theorem d_Rk_smallestFor_66 : decode m_Rk_smallestFor.2.1 66 = .ok (.iconst 1, 1) := by decide +kernel
theorem d_Rk_smallestFor_67 : decode m_Rk_smallestFor.2.1 67 = .ok (.goto 4, 3) := by decide +kernel
theorem d_Rk_smallestFor_70 : decode m_Rk_smallestFor.2.1 70 = .ok (.iconst 0, 1) := by decide +kernel
theorem d_Rk_smallestFor_71 : decode m_Rk_smallestFor.2.1 71 = .ok (.istore 7, 2) := by decide +kernel
theorem d_Rk_smallestFor_73 : decode m_Rk_smallestFor.2.1 73 = .ok (.iload 6, 2) := by decide +kernel
theorem d_Rk_smallestFor_75 : decode m_Rk_smallestFor.2.1 75 = .ok (.ifCond .ne 8, 3) := by decide +kernel
theorem d_Rk_smallestFor_78 : decode m_Rk_smallestFor.2.1 78 = .ok (.iload 7, 2) := by decide +kernel
theorem d_Rk_smallestFor_80 : decode m_Rk_smallestFor.2.1 80 = .ok (.ifCond .eq 29, 3) := by decide +kernel
theorem d_Rk_smallestFor_83 : decode m_Rk_smallestFor.2.1 83 = .ok (.iload_n 3, 1) := by decide +kernel
theorem d_Rk_smallestFor_84 : decode m_Rk_smallestFor.2.1 84 = .ok (.iconst (-1), 1) := by decide +kernel
theorem d_Rk_smallestFor_85 : decode m_Rk_smallestFor.2.1 85 = .ok (.if_icmp .eq 21, 3) := by decide +kernel
theorem d_Rk_smallestFor_88 : decode m_Rk_smallestFor.2.1 88 = .ok (.aload 5, 2) := by decide +kernel
theorem d_Rk_smallestFor_90 : decode m_Rk_smallestFor.2.1 90 = .ok (.invokevirtual 36, 3) := by decide +kernel
theorem d_Rk_smallestFor_93 : decode m_Rk_smallestFor.2.1 93 = .ok (.aload_n 0, 1) := by decide +kernel
theorem d_Rk_smallestFor_94 : decode m_Rk_smallestFor.2.1 94 = .ok (.getfield 11, 3) := by decide +kernel
theorem d_Rk_smallestFor_97 : decode m_Rk_smallestFor.2.1 97 = .ok (.iload_n 3, 1) := by decide +kernel
theorem d_Rk_smallestFor_98 : decode m_Rk_smallestFor.2.1 98 = .ok (.aaload, 1) := by decide +kernel
theorem d_Rk_smallestFor_99 : decode m_Rk_smallestFor.2.1 99 = .ok (.invokevirtual 36, 3) := by decide +kernel
theorem d_Rk_smallestFor_102 : decode m_Rk_smallestFor.2.1 102 = .ok (.lcmp, 1) := by decide +kernel
theorem d_Rk_smallestFor_103 : decode m_Rk_smallestFor.2.1 103 = .ok (.ifCond .ge 6, 3) := by decide +kernel
theorem d_Rk_smallestFor_106 : decode m_Rk_smallestFor.2.1 106 = .ok (.iload 4, 2) := by decide +kernel
theorem d_Rk_smallestFor_108 : decode m_Rk_smallestFor.2.1 108 = .ok (.istore_n 3, 1) := by decide +kernel
theorem d_Rk_smallestFor_109 : decode m_Rk_smallestFor.2.1 109 = .ok (.iinc 4 1, 3) := by decide +kernel
theorem d_Rk_smallestFor_112 : decode m_Rk_smallestFor.2.1 112 = .ok (.goto (-107), 3) := by decide +kernel
theorem d_Rk_smallestFor_115 : decode m_Rk_smallestFor.2.1 115 = .ok (.iload_n 3, 1) := by decide +kernel
theorem d_Rk_smallestFor_116 : decode m_Rk_smallestFor.2.1 116 = .ok (.ireturn, 1) := by decide +kernel
theorem d_Gl_surface_0 : decode m_Gl_surface.2.1 0 = .ok (.aload_n 0, 1) := by decide +kernel
theorem d_Gl_surface_1 : decode m_Gl_surface.2.1 1 = .ok (.getfield 24, 3) := by decide +kernel
theorem d_Gl_surface_4 : decode m_Gl_surface.2.1 4 = .ok (.i2l, 1) := by decide +kernel
theorem d_Gl_surface_5 : decode m_Gl_surface.2.1 5 = .ok (.aload_n 0, 1) := by decide +kernel
theorem d_Gl_surface_6 : decode m_Gl_surface.2.1 6 = .ok (.getfield 28, 3) := by decide +kernel
theorem d_Gl_surface_9 : decode m_Gl_surface.2.1 9 = .ok (.i2l, 1) := by decide +kernel
theorem d_Gl_surface_10 : decode m_Gl_surface.2.1 10 = .ok (.lmul, 1) := by decide +kernel
theorem d_Gl_surface_11 : decode m_Gl_surface.2.1 11 = .ok (.lreturn, 1) := by decide +kernel
theorem d_Ha_area_0 : decode m_Ha_area.2.1 0 = .ok (.iload_n 1, 1) := by decide +kernel
theorem d_Ha_area_1 : decode m_Ha_area.2.1 1 = .ok (.tableswitch 81 0 6 #[43, 48, 53, 61, 66, 71, 76], 43) := by decide +kernel
theorem d_Ha_area_44 : decode m_Ha_area.2.1 44 = .ok (.aload_n 0, 1) := by decide +kernel
theorem d_Ha_area_45 : decode m_Ha_area.2.1 45 = .ok (.invokevirtual 246, 3) := by decide +kernel
theorem d_Ha_area_48 : decode m_Ha_area.2.1 48 = .ok (.lreturn, 1) := by decide +kernel
theorem d_Ha_area_49 : decode m_Ha_area.2.1 49 = .ok (.aload_n 0, 1) := by decide +kernel
theorem d_Ha_area_50 : decode m_Ha_area.2.1 50 = .ok (.getfield 249, 3) := by decide +kernel
theorem d_Ha_area_53 : decode m_Ha_area.2.1 53 = .ok (.lreturn, 1) := by decide +kernel
theorem d_Ha_area_54 : decode m_Ha_area.2.1 54 = .ok (.aload_n 0, 1) := by decide +kernel
theorem d_Ha_area_55 : decode m_Ha_area.2.1 55 = .ok (.getfield 25, 3) := by decide +kernel
theorem d_Ha_area_58 : decode m_Ha_area.2.1 58 = .ok (.invokevirtual 252, 3) := by decide +kernel
theorem d_Ha_area_61 : decode m_Ha_area.2.1 61 = .ok (.lreturn, 1) := by decide +kernel
theorem d_Ha_area_62 : decode m_Ha_area.2.1 62 = .ok (.aload_n 0, 1) := by decide +kernel
theorem d_Ha_area_63 : decode m_Ha_area.2.1 63 = .ok (.getfield 253, 3) := by decide +kernel
theorem d_Ha_area_66 : decode m_Ha_area.2.1 66 = .ok (.lreturn, 1) := by decide +kernel
theorem d_Ha_area_67 : decode m_Ha_area.2.1 67 = .ok (.aload_n 0, 1) := by decide +kernel
theorem d_Ha_area_68 : decode m_Ha_area.2.1 68 = .ok (.getfield 190, 3) := by decide +kernel
theorem d_Ha_area_71 : decode m_Ha_area.2.1 71 = .ok (.lreturn, 1) := by decide +kernel
theorem d_Ha_area_72 : decode m_Ha_area.2.1 72 = .ok (.aload_n 0, 1) := by decide +kernel
theorem d_Ha_area_73 : decode m_Ha_area.2.1 73 = .ok (.invokevirtual 256, 3) := by decide +kernel
theorem d_Ha_area_76 : decode m_Ha_area.2.1 76 = .ok (.lreturn, 1) := by decide +kernel
theorem d_Ha_area_77 : decode m_Ha_area.2.1 77 = .ok (.aload_n 0, 1) := by decide +kernel
theorem d_Ha_area_78 : decode m_Ha_area.2.1 78 = .ok (.getfield 77, 3) := by decide +kernel
theorem d_Ha_area_81 : decode m_Ha_area.2.1 81 = .ok (.lreturn, 1) := by decide +kernel
theorem d_Ha_area_82 : decode m_Ha_area.2.1 82 = .ok (.lconst 0, 1) := by decide +kernel
theorem d_Ha_area_83 : decode m_Ha_area.2.1 83 = .ok (.lreturn, 1) := by decide +kernel
theorem d_Ha_unplannedArea_0 : decode m_Ha_unplannedArea.2.1 0 = .ok (.lconst 0, 1) := by decide +kernel
theorem d_Ha_unplannedArea_1 : decode m_Ha_unplannedArea.2.1 1 = .ok (.lstore_n 1, 1) := by decide +kernel
theorem d_Ha_unplannedArea_2 : decode m_Ha_unplannedArea.2.1 2 = .ok (.aload_n 0, 1) := by decide +kernel
theorem d_Ha_unplannedArea_3 : decode m_Ha_unplannedArea.2.1 3 = .ok (.getfield 11, 3) := by decide +kernel
theorem d_Ha_unplannedArea_6 : decode m_Ha_unplannedArea.2.1 6 = .ok (.astore_n 3, 1) := by decide +kernel
theorem d_Ha_unplannedArea_7 : decode m_Ha_unplannedArea.2.1 7 = .ok (.aload_n 3, 1) := by decide +kernel
theorem d_Ha_unplannedArea_8 : decode m_Ha_unplannedArea.2.1 8 = .ok (.arraylength, 1) := by decide +kernel
theorem d_Ha_unplannedArea_9 : decode m_Ha_unplannedArea.2.1 9 = .ok (.istore 4, 2) := by decide +kernel
theorem d_Ha_unplannedArea_11 : decode m_Ha_unplannedArea.2.1 11 = .ok (.iconst 0, 1) := by decide +kernel
theorem d_Ha_unplannedArea_12 : decode m_Ha_unplannedArea.2.1 12 = .ok (.istore 5, 2) := by decide +kernel
theorem d_Ha_unplannedArea_14 : decode m_Ha_unplannedArea.2.1 14 = .ok (.iload 5, 2) := by decide +kernel
theorem d_Ha_unplannedArea_16 : decode m_Ha_unplannedArea.2.1 16 = .ok (.iload 4, 2) := by decide +kernel
theorem d_Ha_unplannedArea_18 : decode m_Ha_unplannedArea.2.1 18 = .ok (.if_icmp .ge 45, 3) := by decide +kernel
theorem d_Ha_unplannedArea_21 : decode m_Ha_unplannedArea.2.1 21 = .ok (.aload_n 3, 1) := by decide +kernel
theorem d_Ha_unplannedArea_22 : decode m_Ha_unplannedArea.2.1 22 = .ok (.iload 5, 2) := by decide +kernel
theorem d_Ha_unplannedArea_24 : decode m_Ha_unplannedArea.2.1 24 = .ok (.aaload, 1) := by decide +kernel
theorem d_Ha_unplannedArea_25 : decode m_Ha_unplannedArea.2.1 25 = .ok (.astore 6, 2) := by decide +kernel
theorem d_Ha_unplannedArea_27 : decode m_Ha_unplannedArea.2.1 27 = .ok (.aload 6, 2) := by decide +kernel
theorem d_Ha_unplannedArea_29 : decode m_Ha_unplannedArea.2.1 29 = .ok (.getfield 267, 3) := by decide +kernel
theorem d_Ha_unplannedArea_32 : decode m_Ha_unplannedArea.2.1 32 = .ok (.ifCond .eq 25, 3) := by decide +kernel
theorem d_Ha_unplannedArea_35 : decode m_Ha_unplannedArea.2.1 35 = .ok (.aload 6, 2) := by decide +kernel
theorem d_Ha_unplannedArea_37 : decode m_Ha_unplannedArea.2.1 37 = .ok (.getfield 104, 3) := by decide +kernel
theorem d_Ha_unplannedArea_40 : decode m_Ha_unplannedArea.2.1 40 = .ok (.invokevirtual 108, 3) := by decide +kernel
theorem d_Ha_unplannedArea_43 : decode m_Ha_unplannedArea.2.1 43 = .ok (.ifCond .ne 14, 3) := by decide +kernel
theorem d_Ha_unplannedArea_46 : decode m_Ha_unplannedArea.2.1 46 = .ok (.lload_n 1, 1) := by decide +kernel
theorem d_Ha_unplannedArea_47 : decode m_Ha_unplannedArea.2.1 47 = .ok (.aload 6, 2) := by decide +kernel
theorem d_Ha_unplannedArea_49 : decode m_Ha_unplannedArea.2.1 49 = .ok (.getfield 67, 3) := by decide +kernel
theorem d_Ha_unplannedArea_52 : decode m_Ha_unplannedArea.2.1 52 = .ok (.invokevirtual 81, 3) := by decide +kernel
theorem d_Ha_unplannedArea_55 : decode m_Ha_unplannedArea.2.1 55 = .ok (.ladd, 1) := by decide +kernel
theorem d_Ha_unplannedArea_56 : decode m_Ha_unplannedArea.2.1 56 = .ok (.lstore_n 1, 1) := by decide +kernel
theorem d_Ha_unplannedArea_57 : decode m_Ha_unplannedArea.2.1 57 = .ok (.iinc 5 1, 3) := by decide +kernel
theorem d_Ha_unplannedArea_60 : decode m_Ha_unplannedArea.2.1 60 = .ok (.goto (-46), 3) := by decide +kernel
theorem d_Ha_unplannedArea_63 : decode m_Ha_unplannedArea.2.1 63 = .ok (.lload_n 1, 1) := by decide +kernel
theorem d_Ha_unplannedArea_64 : decode m_Ha_unplannedArea.2.1 64 = .ok (.lreturn, 1) := by decide +kernel
theorem d_Tr_isGrown_0 : decode m_Tr_isGrown.2.1 0 = .ok (.aload_n 0, 1) := by decide +kernel
theorem d_Tr_isGrown_1 : decode m_Tr_isGrown.2.1 1 = .ok (.getfield 36, 3) := by decide +kernel
theorem d_Tr_isGrown_4 : decode m_Tr_isGrown.2.1 4 = .ok (.ifCond .le 7, 3) := by decide +kernel
theorem d_Tr_isGrown_7 : decode m_Tr_isGrown.2.1 7 = .ok (.iconst 1, 1) := by decide +kernel
theorem d_Tr_isGrown_8 : decode m_Tr_isGrown.2.1 8 = .ok (.goto 4, 3) := by decide +kernel
theorem d_Tr_isGrown_11 : decode m_Tr_isGrown.2.1 11 = .ok (.iconst 0, 1) := by decide +kernel
theorem d_Tr_isGrown_12 : decode m_Tr_isGrown.2.1 12 = .ok (.ireturn, 1) := by decide +kernel
theorem d_Rk_surface_0 : decode m_Rk_surface.2.1 0 = .ok (.lconst 0, 1) := by decide +kernel
theorem d_Rk_surface_1 : decode m_Rk_surface.2.1 1 = .ok (.lstore_n 1, 1) := by decide +kernel
theorem d_Rk_surface_2 : decode m_Rk_surface.2.1 2 = .ok (.iconst 0, 1) := by decide +kernel
theorem d_Rk_surface_3 : decode m_Rk_surface.2.1 3 = .ok (.istore_n 3, 1) := by decide +kernel
theorem d_Rk_surface_4 : decode m_Rk_surface.2.1 4 = .ok (.iload_n 3, 1) := by decide +kernel
theorem d_Rk_surface_5 : decode m_Rk_surface.2.1 5 = .ok (.aload_n 0, 1) := by decide +kernel
theorem d_Rk_surface_6 : decode m_Rk_surface.2.1 6 = .ok (.getfield 18, 3) := by decide +kernel
theorem d_Rk_surface_9 : decode m_Rk_surface.2.1 9 = .ok (.if_icmp .ge 21, 3) := by decide +kernel
theorem d_Rk_surface_12 : decode m_Rk_surface.2.1 12 = .ok (.lload_n 1, 1) := by decide +kernel
theorem d_Rk_surface_13 : decode m_Rk_surface.2.1 13 = .ok (.aload_n 0, 1) := by decide +kernel
theorem d_Rk_surface_14 : decode m_Rk_surface.2.1 14 = .ok (.getfield 11, 3) := by decide +kernel
theorem d_Rk_surface_17 : decode m_Rk_surface.2.1 17 = .ok (.iload_n 3, 1) := by decide +kernel
theorem d_Rk_surface_18 : decode m_Rk_surface.2.1 18 = .ok (.aaload, 1) := by decide +kernel
theorem d_Rk_surface_19 : decode m_Rk_surface.2.1 19 = .ok (.invokevirtual 36, 3) := by decide +kernel
theorem d_Rk_surface_22 : decode m_Rk_surface.2.1 22 = .ok (.ladd, 1) := by decide +kernel
theorem d_Rk_surface_23 : decode m_Rk_surface.2.1 23 = .ok (.lstore_n 1, 1) := by decide +kernel
theorem d_Rk_surface_24 : decode m_Rk_surface.2.1 24 = .ok (.iinc 3 1, 3) := by decide +kernel
theorem d_Rk_surface_27 : decode m_Rk_surface.2.1 27 = .ok (.goto (-23), 3) := by decide +kernel
theorem d_Rk_surface_30 : decode m_Rk_surface.2.1 30 = .ok (.lload_n 1, 1) := by decide +kernel
theorem d_Rk_surface_31 : decode m_Rk_surface.2.1 31 = .ok (.lreturn, 1) := by decide +kernel
theorem d_Ha_waitingArea_0 : decode m_Ha_waitingArea.2.1 0 = .ok (.lconst 0, 1) := by decide +kernel
theorem d_Ha_waitingArea_1 : decode m_Ha_waitingArea.2.1 1 = .ok (.lstore_n 1, 1) := by decide +kernel
theorem d_Ha_waitingArea_2 : decode m_Ha_waitingArea.2.1 2 = .ok (.aload_n 0, 1) := by decide +kernel
theorem d_Ha_waitingArea_3 : decode m_Ha_waitingArea.2.1 3 = .ok (.getfield 11, 3) := by decide +kernel
theorem d_Ha_waitingArea_6 : decode m_Ha_waitingArea.2.1 6 = .ok (.astore_n 3, 1) := by decide +kernel
theorem d_Ha_waitingArea_7 : decode m_Ha_waitingArea.2.1 7 = .ok (.aload_n 3, 1) := by decide +kernel
theorem d_Ha_waitingArea_8 : decode m_Ha_waitingArea.2.1 8 = .ok (.arraylength, 1) := by decide +kernel
theorem d_Ha_waitingArea_9 : decode m_Ha_waitingArea.2.1 9 = .ok (.istore 4, 2) := by decide +kernel
theorem d_Ha_waitingArea_11 : decode m_Ha_waitingArea.2.1 11 = .ok (.iconst 0, 1) := by decide +kernel
theorem d_Ha_waitingArea_12 : decode m_Ha_waitingArea.2.1 12 = .ok (.istore 5, 2) := by decide +kernel
theorem d_Ha_waitingArea_14 : decode m_Ha_waitingArea.2.1 14 = .ok (.iload 5, 2) := by decide +kernel
theorem d_Ha_waitingArea_16 : decode m_Ha_waitingArea.2.1 16 = .ok (.iload 4, 2) := by decide +kernel
theorem d_Ha_waitingArea_18 : decode m_Ha_waitingArea.2.1 18 = .ok (.if_icmp .ge 26, 3) := by decide +kernel
theorem d_Ha_waitingArea_21 : decode m_Ha_waitingArea.2.1 21 = .ok (.aload_n 3, 1) := by decide +kernel
theorem d_Ha_waitingArea_22 : decode m_Ha_waitingArea.2.1 22 = .ok (.iload 5, 2) := by decide +kernel
theorem d_Ha_waitingArea_24 : decode m_Ha_waitingArea.2.1 24 = .ok (.aaload, 1) := by decide +kernel
theorem d_Ha_waitingArea_25 : decode m_Ha_waitingArea.2.1 25 = .ok (.astore 6, 2) := by decide +kernel
theorem d_Ha_waitingArea_27 : decode m_Ha_waitingArea.2.1 27 = .ok (.lload_n 1, 1) := by decide +kernel
theorem d_Ha_waitingArea_28 : decode m_Ha_waitingArea.2.1 28 = .ok (.aload 6, 2) := by decide +kernel
theorem d_Ha_waitingArea_30 : decode m_Ha_waitingArea.2.1 30 = .ok (.getfield 104, 3) := by decide +kernel
theorem d_Ha_waitingArea_33 : decode m_Ha_waitingArea.2.1 33 = .ok (.invokevirtual 322, 3) := by decide +kernel
theorem d_Ha_waitingArea_36 : decode m_Ha_waitingArea.2.1 36 = .ok (.ladd, 1) := by decide +kernel
theorem d_Ha_waitingArea_37 : decode m_Ha_waitingArea.2.1 37 = .ok (.lstore_n 1, 1) := by decide +kernel
theorem d_Ha_waitingArea_38 : decode m_Ha_waitingArea.2.1 38 = .ok (.iinc 5 1, 3) := by decide +kernel
theorem d_Ha_waitingArea_41 : decode m_Ha_waitingArea.2.1 41 = .ok (.goto (-27), 3) := by decide +kernel
theorem d_Ha_waitingArea_44 : decode m_Ha_waitingArea.2.1 44 = .ok (.lload_n 1, 1) := by decide +kernel
theorem d_Ha_waitingArea_45 : decode m_Ha_waitingArea.2.1 45 = .ok (.lreturn, 1) := by decide +kernel
theorem d_Tr_waitingSurface_0 : decode m_Tr_waitingSurface.2.1 0 = .ok (.lconst 0, 1) := by decide +kernel
theorem d_Tr_waitingSurface_1 : decode m_Tr_waitingSurface.2.1 1 = .ok (.lstore_n 1, 1) := by decide +kernel
theorem d_Tr_waitingSurface_2 : decode m_Tr_waitingSurface.2.1 2 = .ok (.iconst 0, 1) := by decide +kernel
theorem d_Tr_waitingSurface_3 : decode m_Tr_waitingSurface.2.1 3 = .ok (.istore_n 3, 1) := by decide +kernel
theorem d_Tr_waitingSurface_4 : decode m_Tr_waitingSurface.2.1 4 = .ok (.iload_n 3, 1) := by decide +kernel
theorem d_Tr_waitingSurface_5 : decode m_Tr_waitingSurface.2.1 5 = .ok (.aload_n 0, 1) := by decide +kernel
theorem d_Tr_waitingSurface_6 : decode m_Tr_waitingSurface.2.1 6 = .ok (.getfield 36, 3) := by decide +kernel
theorem d_Tr_waitingSurface_9 : decode m_Tr_waitingSurface.2.1 9 = .ok (.if_icmp .ge 27, 3) := by decide +kernel
theorem d_Tr_waitingSurface_12 : decode m_Tr_waitingSurface.2.1 12 = .ok (.aload_n 0, 1) := by decide +kernel
theorem d_Tr_waitingSurface_13 : decode m_Tr_waitingSurface.2.1 13 = .ok (.getfield 33, 3) := by decide +kernel
theorem d_Tr_waitingSurface_16 : decode m_Tr_waitingSurface.2.1 16 = .ok (.iload_n 3, 1) := by decide +kernel
theorem d_Tr_waitingSurface_17 : decode m_Tr_waitingSurface.2.1 17 = .ok (.iaload, 1) := by decide +kernel
theorem d_Tr_waitingSurface_18 : decode m_Tr_waitingSurface.2.1 18 = .ok (.iconst 1, 1) := by decide +kernel
theorem d_Tr_waitingSurface_19 : decode m_Tr_waitingSurface.2.1 19 = .ok (.if_icmp .ne 11, 3) := by decide +kernel
theorem d_Tr_waitingSurface_22 : decode m_Tr_waitingSurface.2.1 22 = .ok (.lload_n 1, 1) := by decide +kernel
theorem d_Tr_waitingSurface_23 : decode m_Tr_waitingSurface.2.1 23 = .ok (.aload_n 0, 1) := by decide +kernel
theorem d_Tr_waitingSurface_24 : decode m_Tr_waitingSurface.2.1 24 = .ok (.iload_n 3, 1) := by decide +kernel
theorem d_Tr_waitingSurface_25 : decode m_Tr_waitingSurface.2.1 25 = .ok (.invokevirtual 93, 3) := by decide +kernel
theorem d_Tr_waitingSurface_28 : decode m_Tr_waitingSurface.2.1 28 = .ok (.ladd, 1) := by decide +kernel
theorem d_Tr_waitingSurface_29 : decode m_Tr_waitingSurface.2.1 29 = .ok (.lstore_n 1, 1) := by decide +kernel
theorem d_Tr_waitingSurface_30 : decode m_Tr_waitingSurface.2.1 30 = .ok (.iinc 3 1, 3) := by decide +kernel
theorem d_Tr_waitingSurface_33 : decode m_Tr_waitingSurface.2.1 33 = .ok (.goto (-29), 3) := by decide +kernel
theorem d_Tr_waitingSurface_36 : decode m_Tr_waitingSurface.2.1 36 = .ok (.lload_n 1, 1) := by decide +kernel
theorem d_Tr_waitingSurface_37 : decode m_Tr_waitingSurface.2.1 37 = .ok (.lreturn, 1) := by decide +kernel
theorem d_Tr_surface_0 : decode m_Tr_surface.2.1 0 = .ok (.aload_n 0, 1) := by decide +kernel
theorem d_Tr_surface_1 : decode m_Tr_surface.2.1 1 = .ok (.getfield 21, 3) := by decide +kernel
theorem d_Tr_surface_4 : decode m_Tr_surface.2.1 4 = .ok (.iload_n 1, 1) := by decide +kernel
theorem d_Tr_surface_5 : decode m_Tr_surface.2.1 5 = .ok (.iaload, 1) := by decide +kernel
theorem d_Tr_surface_6 : decode m_Tr_surface.2.1 6 = .ok (.i2l, 1) := by decide +kernel
theorem d_Tr_surface_7 : decode m_Tr_surface.2.1 7 = .ok (.aload_n 0, 1) := by decide +kernel
theorem d_Tr_surface_8 : decode m_Tr_surface.2.1 8 = .ok (.getfield 24, 3) := by decide +kernel
theorem d_Tr_surface_11 : decode m_Tr_surface.2.1 11 = .ok (.iload_n 1, 1) := by decide +kernel
theorem d_Tr_surface_12 : decode m_Tr_surface.2.1 12 = .ok (.iaload, 1) := by decide +kernel
theorem d_Tr_surface_13 : decode m_Tr_surface.2.1 13 = .ok (.i2l, 1) := by decide +kernel
theorem d_Tr_surface_14 : decode m_Tr_surface.2.1 14 = .ok (.lmul, 1) := by decide +kernel
theorem d_Tr_surface_15 : decode m_Tr_surface.2.1 15 = .ok (.lreturn, 1) := by decide +kernel
theorem d_Ha_total_0 : decode m_Ha_total.2.1 0 = .ok (.iload_n 1, 1) := by decide +kernel
theorem d_Ha_total_1 : decode m_Ha_total.2.1 1 = .ok (.tableswitch 68 0 4 #[35, 41, 47, 55, 63], 35) := by decide +kernel
theorem d_Ha_total_36 : decode m_Ha_total.2.1 36 = .ok (.aload_n 0, 1) := by decide +kernel
theorem d_Ha_total_37 : decode m_Ha_total.2.1 37 = .ok (.iconst 0, 1) := by decide +kernel
theorem d_Ha_total_38 : decode m_Ha_total.2.1 38 = .ok (.invokevirtual 259, 3) := by decide +kernel
theorem d_Ha_total_41 : decode m_Ha_total.2.1 41 = .ok (.ireturn, 1) := by decide +kernel
theorem d_Ha_total_42 : decode m_Ha_total.2.1 42 = .ok (.aload_n 0, 1) := by decide +kernel
theorem d_Ha_total_43 : decode m_Ha_total.2.1 43 = .ok (.iconst 1, 1) := by decide +kernel
theorem d_Ha_total_44 : decode m_Ha_total.2.1 44 = .ok (.invokevirtual 259, 3) := by decide +kernel
theorem d_Ha_total_47 : decode m_Ha_total.2.1 47 = .ok (.ireturn, 1) := by decide +kernel
theorem d_Ha_total_48 : decode m_Ha_total.2.1 48 = .ok (.aload_n 0, 1) := by decide +kernel
theorem d_Ha_total_49 : decode m_Ha_total.2.1 49 = .ok (.getfield 18, 3) := by decide +kernel
theorem d_Ha_total_52 : decode m_Ha_total.2.1 52 = .ok (.getfield 121, 3) := by decide +kernel
theorem d_Ha_total_55 : decode m_Ha_total.2.1 55 = .ok (.ireturn, 1) := by decide +kernel
theorem d_Ha_total_56 : decode m_Ha_total.2.1 56 = .ok (.aload_n 0, 1) := by decide +kernel
theorem d_Ha_total_57 : decode m_Ha_total.2.1 57 = .ok (.getfield 25, 3) := by decide +kernel
theorem d_Ha_total_60 : decode m_Ha_total.2.1 60 = .ok (.getfield 263, 3) := by decide +kernel
theorem d_Ha_total_63 : decode m_Ha_total.2.1 63 = .ok (.ireturn, 1) := by decide +kernel
theorem d_Ha_total_64 : decode m_Ha_total.2.1 64 = .ok (.aload_n 0, 1) := by decide +kernel
theorem d_Ha_total_65 : decode m_Ha_total.2.1 65 = .ok (.getfield 264, 3) := by decide +kernel
theorem d_Ha_total_68 : decode m_Ha_total.2.1 68 = .ok (.ireturn, 1) := by decide +kernel
theorem d_Ha_total_69 : decode m_Ha_total.2.1 69 = .ok (.iconst (-1), 1) := by decide +kernel
theorem d_Ha_total_70 : decode m_Ha_total.2.1 70 = .ok (.ireturn, 1) := by decide +kernel
theorem d_Ha_countSheets_0 : decode m_Ha_countSheets.2.1 0 = .ok (.iconst 0, 1) := by decide +kernel
theorem d_Ha_countSheets_1 : decode m_Ha_countSheets.2.1 1 = .ok (.istore_n 2, 1) := by decide +kernel
theorem d_Ha_countSheets_2 : decode m_Ha_countSheets.2.1 2 = .ok (.aload_n 0, 1) := by decide +kernel
theorem d_Ha_countSheets_3 : decode m_Ha_countSheets.2.1 3 = .ok (.getfield 11, 3) := by decide +kernel
theorem d_Ha_countSheets_6 : decode m_Ha_countSheets.2.1 6 = .ok (.astore_n 3, 1) := by decide +kernel
theorem d_Ha_countSheets_7 : decode m_Ha_countSheets.2.1 7 = .ok (.aload_n 3, 1) := by decide +kernel
theorem d_Ha_countSheets_8 : decode m_Ha_countSheets.2.1 8 = .ok (.arraylength, 1) := by decide +kernel
theorem d_Ha_countSheets_9 : decode m_Ha_countSheets.2.1 9 = .ok (.istore 4, 2) := by decide +kernel
theorem d_Ha_countSheets_11 : decode m_Ha_countSheets.2.1 11 = .ok (.iconst 0, 1) := by decide +kernel
theorem d_Ha_countSheets_12 : decode m_Ha_countSheets.2.1 12 = .ok (.istore 5, 2) := by decide +kernel
theorem d_Ha_countSheets_14 : decode m_Ha_countSheets.2.1 14 = .ok (.iload 5, 2) := by decide +kernel
theorem d_Ha_countSheets_16 : decode m_Ha_countSheets.2.1 16 = .ok (.iload 4, 2) := by decide +kernel
theorem d_Ha_countSheets_18 : decode m_Ha_countSheets.2.1 18 = .ok (.if_icmp .ge 41, 3) := by decide +kernel
theorem d_Ha_countSheets_21 : decode m_Ha_countSheets.2.1 21 = .ok (.aload_n 3, 1) := by decide +kernel
theorem d_Ha_countSheets_22 : decode m_Ha_countSheets.2.1 22 = .ok (.iload 5, 2) := by decide +kernel
theorem d_Ha_countSheets_24 : decode m_Ha_countSheets.2.1 24 = .ok (.aaload, 1) := by decide +kernel
theorem d_Ha_countSheets_25 : decode m_Ha_countSheets.2.1 25 = .ok (.astore 6, 2) := by decide +kernel
theorem d_Ha_countSheets_27 : decode m_Ha_countSheets.2.1 27 = .ok (.aload 6, 2) := by decide +kernel
theorem d_Ha_countSheets_29 : decode m_Ha_countSheets.2.1 29 = .ok (.getfield 267, 3) := by decide +kernel
theorem d_Ha_countSheets_32 : decode m_Ha_countSheets.2.1 32 = .ok (.ifCond .eq 21, 3) := by decide +kernel
theorem d_Ha_countSheets_35 : decode m_Ha_countSheets.2.1 35 = .ok (.iload_n 1, 1) := by decide +kernel
theorem d_Ha_countSheets_36 : decode m_Ha_countSheets.2.1 36 = .ok (.ifCond .eq 14, 3) := by decide +kernel
theorem d_Ha_countSheets_39 : decode m_Ha_countSheets.2.1 39 = .ok (.aload 6, 2) := by decide +kernel
theorem d_Ha_countSheets_41 : decode m_Ha_countSheets.2.1 41 = .ok (.getfield 104, 3) := by decide +kernel
theorem d_Ha_countSheets_44 : decode m_Ha_countSheets.2.1 44 = .ok (.invokevirtual 108, 3) := by decide +kernel
theorem d_Ha_countSheets_47 : decode m_Ha_countSheets.2.1 47 = .ok (.ifCond .eq 6, 3) := by decide +kernel
theorem d_Ha_countSheets_50 : decode m_Ha_countSheets.2.1 50 = .ok (.iinc 2 1, 3) := by decide +kernel
theorem d_Ha_countSheets_53 : decode m_Ha_countSheets.2.1 53 = .ok (.iinc 5 1, 3) := by decide +kernel
theorem d_Ha_countSheets_56 : decode m_Ha_countSheets.2.1 56 = .ok (.goto (-42), 3) := by decide +kernel
theorem d_Ha_countSheets_59 : decode m_Ha_countSheets.2.1 59 = .ok (.iload_n 2, 1) := by decide +kernel
theorem d_Ha_countSheets_60 : decode m_Ha_countSheets.2.1 60 = .ok (.ireturn, 1) := by decide +kernel
theorem d_Lw_sheet_0 : decode m_Lw_sheet.2.1 0 = .ok (.aload_n 3, 1) := by decide +kernel
theorem d_Lw_sheet_1 : decode m_Lw_sheet.2.1 1 = .ok (.iconst 0, 1) := by decide +kernel
theorem d_Lw_sheet_2 : decode m_Lw_sheet.2.1 2 = .ok (.aload_n 0, 1) := by decide +kernel
theorem d_Lw_sheet_3 : decode m_Lw_sheet.2.1 3 = .ok (.iload_n 1, 1) := by decide +kernel
theorem d_Lw_sheet_4 : decode m_Lw_sheet.2.1 4 = .ok (.iload_n 2, 1) := by decide +kernel
theorem d_Lw_sheet_5 : decode m_Lw_sheet.2.1 5 = .ok (.invokevirtual 7, 3) := by decide +kernel
theorem d_Lw_sheet_8 : decode m_Lw_sheet.2.1 8 = .ok (.i2l, 1) := by decide +kernel
theorem d_Lw_sheet_9 : decode m_Lw_sheet.2.1 9 = .ok (.lastore, 1) := by decide +kernel
theorem d_Lw_sheet_10 : decode m_Lw_sheet.2.1 10 = .ok (.goto 11, 3) := by decide +kernel
theorem d_Lw_sheet_13 : decode m_Lw_sheet.2.1 13 = .ok (.astore 4, 2) := by decide +kernel
theorem d_Lw_sheet_15 : decode m_Lw_sheet.2.1 15 = .ok (.iconst 1, 1) := by decide +kernel
theorem d_Lw_sheet_16 : decode m_Lw_sheet.2.1 16 = .ok (.ireturn, 1) := by decide +kernel
theorem d_Lw_sheet_17 : decode m_Lw_sheet.2.1 17 = .ok (.astore 4, 2) := by decide +kernel
theorem d_Lw_sheet_19 : decode m_Lw_sheet.2.1 19 = .ok (.iconst 2, 1) := by decide +kernel
theorem d_Lw_sheet_20 : decode m_Lw_sheet.2.1 20 = .ok (.ireturn, 1) := by decide +kernel
theorem d_Lw_sheet_21 : decode m_Lw_sheet.2.1 21 = .ok (.iconst 0, 1) := by decide +kernel
theorem d_Lw_sheet_22 : decode m_Lw_sheet.2.1 22 = .ok (.ireturn, 1) := by decide +kernel
theorem d_Ha_sheet_0 : decode m_Ha_sheet.2.1 0 = .ok (.iload_n 1, 1) := by decide +kernel
theorem d_Ha_sheet_1 : decode m_Ha_sheet.2.1 1 = .ok (.invokestatic 53, 3) := by decide +kernel
theorem d_Ha_sheet_4 : decode m_Ha_sheet.2.1 4 = .ok (.ifCond .eq 10, 3) := by decide +kernel
theorem d_Ha_sheet_7 : decode m_Ha_sheet.2.1 7 = .ok (.iload_n 2, 1) := by decide +kernel
theorem d_Ha_sheet_8 : decode m_Ha_sheet.2.1 8 = .ok (.invokestatic 53, 3) := by decide +kernel
theorem d_Ha_sheet_11 : decode m_Ha_sheet.2.1 11 = .ok (.ifCond .ne 11, 3) := by decide +kernel
theorem d_Ha_sheet_14 : decode m_Ha_sheet.2.1 14 = .ok (.new 57, 3) := by decide +kernel
theorem d_Ha_sheet_17 : decode m_Ha_sheet.2.1 17 = .ok (.dup, 1) := by decide +kernel
theorem d_Ha_sheet_18 : decode m_Ha_sheet.2.1 18 = .ok (.invokespecial 59, 3) := by decide +kernel
theorem d_Ha_sheet_21 : decode m_Ha_sheet.2.1 21 = .ok (.athrow, 1) := by decide +kernel
theorem d_Ha_sheet_22 : decode m_Ha_sheet.2.1 22 = .ok (.aload_n 0, 1) := by decide +kernel
theorem d_Ha_sheet_23 : decode m_Ha_sheet.2.1 23 = .ok (.invokevirtual 60, 3) := by decide +kernel
theorem d_Ha_sheet_26 : decode m_Ha_sheet.2.1 26 = .ok (.astore_n 3, 1) := by decide +kernel
theorem d_Ha_sheet_27 : decode m_Ha_sheet.2.1 27 = .ok (.aload_n 3, 1) := by decide +kernel
theorem d_Ha_sheet_28 : decode m_Ha_sheet.2.1 28 = .ok (.ifnonnull 11, 3) := by decide +kernel
theorem d_Ha_sheet_31 : decode m_Ha_sheet.2.1 31 = .ok (.new 64, 3) := by decide +kernel
theorem d_Ha_sheet_34 : decode m_Ha_sheet.2.1 34 = .ok (.dup, 1) := by decide +kernel
theorem d_Ha_sheet_35 : decode m_Ha_sheet.2.1 35 = .ok (.invokespecial 66, 3) := by decide +kernel
theorem d_Ha_sheet_38 : decode m_Ha_sheet.2.1 38 = .ok (.athrow, 1) := by decide +kernel
theorem d_Ha_sheet_39 : decode m_Ha_sheet.2.1 39 = .ok (.aload_n 3, 1) := by decide +kernel
theorem d_Ha_sheet_40 : decode m_Ha_sheet.2.1 40 = .ok (.getfield 67, 3) := by decide +kernel
theorem d_Ha_sheet_43 : decode m_Ha_sheet.2.1 43 = .ok (.iload_n 1, 1) := by decide +kernel
theorem d_Ha_sheet_44 : decode m_Ha_sheet.2.1 44 = .ok (.iload_n 2, 1) := by decide +kernel
theorem d_Ha_sheet_45 : decode m_Ha_sheet.2.1 45 = .ok (.invokevirtual 71, 3) := by decide +kernel
theorem d_Ha_sheet_48 : decode m_Ha_sheet.2.1 48 = .ok (.aload_n 0, 1) := by decide +kernel
theorem d_Ha_sheet_49 : decode m_Ha_sheet.2.1 49 = .ok (.dup, 1) := by decide +kernel
theorem d_Ha_sheet_50 : decode m_Ha_sheet.2.1 50 = .ok (.getfield 77, 3) := by decide +kernel
theorem d_Ha_sheet_53 : decode m_Ha_sheet.2.1 53 = .ok (.aload_n 3, 1) := by decide +kernel
theorem d_Ha_sheet_54 : decode m_Ha_sheet.2.1 54 = .ok (.getfield 67, 3) := by decide +kernel
theorem d_Ha_sheet_57 : decode m_Ha_sheet.2.1 57 = .ok (.invokevirtual 81, 3) := by decide +kernel
theorem d_Ha_sheet_60 : decode m_Ha_sheet.2.1 60 = .ok (.ladd, 1) := by decide +kernel
theorem d_Ha_sheet_61 : decode m_Ha_sheet.2.1 61 = .ok (.putfield 77, 3) := by decide +kernel
theorem d_Ha_sheet_64 : decode m_Ha_sheet.2.1 64 = .ok (.aload_n 0, 1) := by decide +kernel
theorem d_Ha_sheet_65 : decode m_Ha_sheet.2.1 65 = .ok (.aload_n 3, 1) := by decide +kernel
theorem d_Ha_sheet_66 : decode m_Ha_sheet.2.1 66 = .ok (.invokevirtual 85, 3) := by decide +kernel
theorem d_Ha_sheet_69 : decode m_Ha_sheet.2.1 69 = .ok (.ireturn, 1) := by decide +kernel
theorem d_Ha_isLength_0 : decode m_Ha_isLength.2.1 0 = .ok (.iload_n 0, 1) := by decide +kernel
theorem d_Ha_isLength_1 : decode m_Ha_isLength.2.1 1 = .ok (.iconst 1, 1) := by decide +kernel
theorem d_Ha_isLength_2 : decode m_Ha_isLength.2.1 2 = .ok (.if_icmp .lt 14, 3) := by decide +kernel
theorem d_Ha_isLength_5 : decode m_Ha_isLength.2.1 5 = .ok (.iload_n 0, 1) := by decide +kernel
theorem d_Ha_isLength_6 : decode m_Ha_isLength.2.1 6 = .ok (.sipush 6000, 3) := by decide +kernel
theorem d_Ha_isLength_9 : decode m_Ha_isLength.2.1 9 = .ok (.if_icmp .gt 7, 3) := by decide +kernel
theorem d_Ha_isLength_12 : decode m_Ha_isLength.2.1 12 = .ok (.iconst 1, 1) := by decide +kernel
theorem d_Ha_isLength_13 : decode m_Ha_isLength.2.1 13 = .ok (.goto 4, 3) := by decide +kernel
theorem d_Ha_isLength_16 : decode m_Ha_isLength.2.1 16 = .ok (.iconst 0, 1) := by decide +kernel
theorem d_Ha_isLength_17 : decode m_Ha_isLength.2.1 17 = .ok (.ireturn, 1) := by decide +kernel
theorem d_Ha_findFreeSlot_0 : decode m_Ha_findFreeSlot.2.1 0 = .ok (.aload_n 0, 1) := by decide +kernel
theorem d_Ha_findFreeSlot_1 : decode m_Ha_findFreeSlot.2.1 1 = .ok (.getfield 11, 3) := by decide +kernel
theorem d_Ha_findFreeSlot_4 : decode m_Ha_findFreeSlot.2.1 4 = .ok (.astore_n 1, 1) := by decide +kernel
theorem d_Ha_findFreeSlot_5 : decode m_Ha_findFreeSlot.2.1 5 = .ok (.aload_n 1, 1) := by decide +kernel
theorem d_Ha_findFreeSlot_6 : decode m_Ha_findFreeSlot.2.1 6 = .ok (.arraylength, 1) := by decide +kernel
theorem d_Ha_findFreeSlot_7 : decode m_Ha_findFreeSlot.2.1 7 = .ok (.istore_n 2, 1) := by decide +kernel
theorem d_Ha_findFreeSlot_8 : decode m_Ha_findFreeSlot.2.1 8 = .ok (.iconst 0, 1) := by decide +kernel
theorem d_Ha_findFreeSlot_9 : decode m_Ha_findFreeSlot.2.1 9 = .ok (.istore_n 3, 1) := by decide +kernel
theorem d_Ha_findFreeSlot_10 : decode m_Ha_findFreeSlot.2.1 10 = .ok (.iload_n 3, 1) := by decide +kernel
theorem d_Ha_findFreeSlot_11 : decode m_Ha_findFreeSlot.2.1 11 = .ok (.iload_n 2, 1) := by decide +kernel
theorem d_Ha_findFreeSlot_12 : decode m_Ha_findFreeSlot.2.1 12 = .ok (.if_icmp .ge 25, 3) := by decide +kernel
theorem d_Ha_findFreeSlot_15 : decode m_Ha_findFreeSlot.2.1 15 = .ok (.aload_n 1, 1) := by decide +kernel
theorem d_Ha_findFreeSlot_16 : decode m_Ha_findFreeSlot.2.1 16 = .ok (.iload_n 3, 1) := by decide +kernel
theorem d_Ha_findFreeSlot_17 : decode m_Ha_findFreeSlot.2.1 17 = .ok (.aaload, 1) := by decide +kernel
theorem d_Ha_findFreeSlot_18 : decode m_Ha_findFreeSlot.2.1 18 = .ok (.astore 4, 2) := by decide +kernel
theorem d_Ha_findFreeSlot_20 : decode m_Ha_findFreeSlot.2.1 20 = .ok (.aload 4, 2) := by decide +kernel
theorem d_Ha_findFreeSlot_22 : decode m_Ha_findFreeSlot.2.1 22 = .ok (.getfield 267, 3) := by decide +kernel
theorem d_Ha_findFreeSlot_25 : decode m_Ha_findFreeSlot.2.1 25 = .ok (.ifCond .ne 6, 3) := by decide +kernel
theorem d_Ha_findFreeSlot_28 : decode m_Ha_findFreeSlot.2.1 28 = .ok (.aload 4, 2) := by decide +kernel
theorem d_Ha_findFreeSlot_30 : decode m_Ha_findFreeSlot.2.1 30 = .ok (.areturn, 1) := by decide +kernel
theorem d_Ha_findFreeSlot_31 : decode m_Ha_findFreeSlot.2.1 31 = .ok (.iinc 3 1, 3) := by decide +kernel
theorem d_Ha_findFreeSlot_34 : decode m_Ha_findFreeSlot.2.1 34 = .ok (.goto (-24), 3) := by decide +kernel
theorem d_Ha_findFreeSlot_37 : decode m_Ha_findFreeSlot.2.1 37 = .ok (.aconst_null, 1) := by decide +kernel
theorem d_Ha_findFreeSlot_38 : decode m_Ha_findFreeSlot.2.1 38 = .ok (.areturn, 1) := by decide +kernel
theorem d_Gl_become_0 : decode m_Gl_become.2.1 0 = .ok (.aload_n 0, 1) := by decide +kernel
theorem d_Gl_become_1 : decode m_Gl_become.2.1 1 = .ok (.iload_n 1, 1) := by decide +kernel
theorem d_Gl_become_2 : decode m_Gl_become.2.1 2 = .ok (.putfield 24, 3) := by decide +kernel
theorem d_Gl_become_5 : decode m_Gl_become.2.1 5 = .ok (.aload_n 0, 1) := by decide +kernel
theorem d_Gl_become_6 : decode m_Gl_become.2.1 6 = .ok (.iload_n 2, 1) := by decide +kernel
theorem d_Gl_become_7 : decode m_Gl_become.2.1 7 = .ok (.putfield 28, 3) := by decide +kernel
theorem d_Gl_become_10 : decode m_Gl_become.2.1 10 = .ok (.aload_n 0, 1) := by decide +kernel
theorem d_Gl_become_11 : decode m_Gl_become.2.1 11 = .ok (.iconst 0, 1) := by decide +kernel
theorem d_Gl_become_12 : decode m_Gl_become.2.1 12 = .ok (.putfield 31, 3) := by decide +kernel
theorem d_Gl_become_15 : decode m_Gl_become.2.1 15 = .ok (.return_, 1) := by decide +kernel
theorem d_Ha_bringIn_0 : decode m_Ha_bringIn.2.1 0 = .ok (.aload_n 1, 1) := by decide +kernel
theorem d_Ha_bringIn_1 : decode m_Ha_bringIn.2.1 1 = .ok (.iconst 1, 1) := by decide +kernel
theorem d_Ha_bringIn_2 : decode m_Ha_bringIn.2.1 2 = .ok (.putfield 267, 3) := by decide +kernel
theorem d_Ha_bringIn_5 : decode m_Ha_bringIn.2.1 5 = .ok (.aload_n 1, 1) := by decide +kernel
theorem d_Ha_bringIn_6 : decode m_Ha_bringIn.2.1 6 = .ok (.aload_n 0, 1) := by decide +kernel
theorem d_Ha_bringIn_7 : decode m_Ha_bringIn.2.1 7 = .ok (.getfield 264, 3) := by decide +kernel
theorem d_Ha_bringIn_10 : decode m_Ha_bringIn.2.1 10 = .ok (.putfield 271, 3) := by decide +kernel
theorem d_Ha_bringIn_13 : decode m_Ha_bringIn.2.1 13 = .ok (.aload_n 0, 1) := by decide +kernel
theorem d_Ha_bringIn_14 : decode m_Ha_bringIn.2.1 14 = .ok (.dup, 1) := by decide +kernel
theorem d_Ha_bringIn_15 : decode m_Ha_bringIn.2.1 15 = .ok (.getfield 264, 3) := by decide +kernel
theorem d_Ha_bringIn_18 : decode m_Ha_bringIn.2.1 18 = .ok (.iconst 1, 1) := by decide +kernel
theorem d_Ha_bringIn_19 : decode m_Ha_bringIn.2.1 19 = .ok (.iadd, 1) := by decide +kernel
theorem d_Ha_bringIn_20 : decode m_Ha_bringIn.2.1 20 = .ok (.putfield 264, 3) := by decide +kernel
theorem d_Ha_bringIn_23 : decode m_Ha_bringIn.2.1 23 = .ok (.aload_n 1, 1) := by decide +kernel
theorem d_Ha_bringIn_24 : decode m_Ha_bringIn.2.1 24 = .ok (.getfield 271, 3) := by decide +kernel
theorem d_Ha_bringIn_27 : decode m_Ha_bringIn.2.1 27 = .ok (.ireturn, 1) := by decide +kernel
theorem d_Lw_flaw_0 : decode m_Lw_flaw.2.1 0 = .ok (.aload 6, 2) := by decide +kernel
theorem d_Lw_flaw_2 : decode m_Lw_flaw.2.1 2 = .ok (.iconst 0, 1) := by decide +kernel
theorem d_Lw_flaw_3 : decode m_Lw_flaw.2.1 3 = .ok (.aload_n 0, 1) := by decide +kernel
theorem d_Lw_flaw_4 : decode m_Lw_flaw.2.1 4 = .ok (.iload_n 1, 1) := by decide +kernel
theorem d_Lw_flaw_5 : decode m_Lw_flaw.2.1 5 = .ok (.iload_n 2, 1) := by decide +kernel
theorem d_Lw_flaw_6 : decode m_Lw_flaw.2.1 6 = .ok (.iload_n 3, 1) := by decide +kernel
theorem d_Lw_flaw_7 : decode m_Lw_flaw.2.1 7 = .ok (.iload 4, 2) := by decide +kernel
theorem d_Lw_flaw_9 : decode m_Lw_flaw.2.1 9 = .ok (.iload 5, 2) := by decide +kernel
theorem d_Lw_flaw_11 : decode m_Lw_flaw.2.1 11 = .ok (.invokevirtual 17, 3) := by decide +kernel
theorem d_Lw_flaw_14 : decode m_Lw_flaw.2.1 14 = .ok (.i2l, 1) := by decide +kernel
theorem d_Lw_flaw_15 : decode m_Lw_flaw.2.1 15 = .ok (.lastore, 1) := by decide +kernel
theorem d_Lw_flaw_16 : decode m_Lw_flaw.2.1 16 = .ok (.goto 15, 3) := by decide +kernel
theorem d_Lw_flaw_19 : decode m_Lw_flaw.2.1 19 = .ok (.astore 7, 2) := by decide +kernel
theorem d_Lw_flaw_21 : decode m_Lw_flaw.2.1 21 = .ok (.iconst 1, 1) := by decide +kernel
theorem d_Lw_flaw_22 : decode m_Lw_flaw.2.1 22 = .ok (.ireturn, 1) := by decide +kernel
theorem d_Lw_flaw_23 : decode m_Lw_flaw.2.1 23 = .ok (.astore 7, 2) := by decide +kernel
theorem d_Lw_flaw_25 : decode m_Lw_flaw.2.1 25 = .ok (.iconst 2, 1) := by decide +kernel
theorem d_Lw_flaw_26 : decode m_Lw_flaw.2.1 26 = .ok (.ireturn, 1) := by decide +kernel
theorem d_Lw_flaw_27 : decode m_Lw_flaw.2.1 27 = .ok (.astore 7, 2) := by decide +kernel
theorem d_Lw_flaw_29 : decode m_Lw_flaw.2.1 29 = .ok (.iconst 3, 1) := by decide +kernel
theorem d_Lw_flaw_30 : decode m_Lw_flaw.2.1 30 = .ok (.ireturn, 1) := by decide +kernel
theorem d_Lw_flaw_31 : decode m_Lw_flaw.2.1 31 = .ok (.iconst 0, 1) := by decide +kernel
theorem d_Lw_flaw_32 : decode m_Lw_flaw.2.1 32 = .ok (.ireturn, 1) := by decide +kernel
theorem d_Ha_flaw_0 : decode m_Ha_flaw.2.1 0 = .ok (.aload_n 0, 1) := by decide +kernel
theorem d_Ha_flaw_1 : decode m_Ha_flaw.2.1 1 = .ok (.iload_n 1, 1) := by decide +kernel
theorem d_Ha_flaw_2 : decode m_Ha_flaw.2.1 2 = .ok (.invokevirtual 89, 3) := by decide +kernel
theorem d_Ha_flaw_5 : decode m_Ha_flaw.2.1 5 = .ok (.astore 6, 2) := by decide +kernel
theorem d_Ha_flaw_7 : decode m_Ha_flaw.2.1 7 = .ok (.aload 6, 2) := by decide +kernel
theorem d_Ha_flaw_9 : decode m_Ha_flaw.2.1 9 = .ok (.getfield 67, 3) := by decide +kernel
theorem d_Ha_flaw_12 : decode m_Ha_flaw.2.1 12 = .ok (.astore 7, 2) := by decide +kernel
theorem d_Ha_flaw_14 : decode m_Ha_flaw.2.1 14 = .ok (.iload 4, 2) := by decide +kernel
theorem d_Ha_flaw_16 : decode m_Ha_flaw.2.1 16 = .ok (.iconst 1, 1) := by decide +kernel
theorem d_Ha_flaw_17 : decode m_Ha_flaw.2.1 17 = .ok (.if_icmp .lt 37, 3) := by decide +kernel
theorem d_Ha_flaw_20 : decode m_Ha_flaw.2.1 20 = .ok (.iload 5, 2) := by decide +kernel
theorem d_Ha_flaw_22 : decode m_Ha_flaw.2.1 22 = .ok (.iconst 1, 1) := by decide +kernel
theorem d_Ha_flaw_23 : decode m_Ha_flaw.2.1 23 = .ok (.if_icmp .lt 31, 3) := by decide +kernel
theorem d_Ha_flaw_26 : decode m_Ha_flaw.2.1 26 = .ok (.iload_n 2, 1) := by decide +kernel
theorem d_Ha_flaw_27 : decode m_Ha_flaw.2.1 27 = .ok (.iload 4, 2) := by decide +kernel
theorem d_Ha_flaw_29 : decode m_Ha_flaw.2.1 29 = .ok (.aload 7, 2) := by decide +kernel
theorem d_Ha_flaw_31 : decode m_Ha_flaw.2.1 31 = .ok (.getfield 93, 3) := by decide +kernel
theorem d_Ha_flaw_34 : decode m_Ha_flaw.2.1 34 = .ok (.invokestatic 97, 3) := by decide +kernel
theorem d_Ha_flaw_37 : decode m_Ha_flaw.2.1 37 = .ok (.ifCond .eq 17, 3) := by decide +kernel
theorem d_Ha_flaw_40 : decode m_Ha_flaw.2.1 40 = .ok (.iload_n 3, 1) := by decide +kernel
theorem d_Ha_flaw_41 : decode m_Ha_flaw.2.1 41 = .ok (.iload 5, 2) := by decide +kernel
theorem d_Ha_flaw_43 : decode m_Ha_flaw.2.1 43 = .ok (.aload 7, 2) := by decide +kernel
theorem d_Ha_flaw_45 : decode m_Ha_flaw.2.1 45 = .ok (.getfield 101, 3) := by decide +kernel
theorem d_Ha_flaw_48 : decode m_Ha_flaw.2.1 48 = .ok (.invokestatic 97, 3) := by decide +kernel
theorem d_Ha_flaw_51 : decode m_Ha_flaw.2.1 51 = .ok (.ifCond .ne 11, 3) := by decide +kernel
theorem d_Ha_flaw_54 : decode m_Ha_flaw.2.1 54 = .ok (.new 57, 3) := by decide +kernel
theorem d_Ha_flaw_57 : decode m_Ha_flaw.2.1 57 = .ok (.dup, 1) := by decide +kernel
theorem d_Ha_flaw_58 : decode m_Ha_flaw.2.1 58 = .ok (.invokespecial 59, 3) := by decide +kernel
theorem d_Ha_flaw_61 : decode m_Ha_flaw.2.1 61 = .ok (.athrow, 1) := by decide +kernel
theorem d_Ha_flaw_62 : decode m_Ha_flaw.2.1 62 = .ok (.aload 6, 2) := by decide +kernel
theorem d_Ha_flaw_64 : decode m_Ha_flaw.2.1 64 = .ok (.getfield 104, 3) := by decide +kernel
theorem d_Ha_flaw_67 : decode m_Ha_flaw.2.1 67 = .ok (.invokevirtual 108, 3) := by decide +kernel
theorem d_Ha_flaw_70 : decode m_Ha_flaw.2.1 70 = .ok (.ifCond .ne 13, 3) := by decide +kernel
theorem d_Ha_flaw_73 : decode m_Ha_flaw.2.1 73 = .ok (.aload 7, 2) := by decide +kernel
theorem d_Ha_flaw_75 : decode m_Ha_flaw.2.1 75 = .ok (.getfield 114, 3) := by decide +kernel
theorem d_Ha_flaw_78 : decode m_Ha_flaw.2.1 78 = .ok (.bipush 6, 2) := by decide +kernel
theorem d_Ha_flaw_80 : decode m_Ha_flaw.2.1 80 = .ok (.if_icmp .lt 11, 3) := by decide +kernel
theorem d_Ha_flaw_83 : decode m_Ha_flaw.2.1 83 = .ok (.new 64, 3) := by decide +kernel
theorem d_Ha_flaw_86 : decode m_Ha_flaw.2.1 86 = .ok (.dup, 1) := by decide +kernel
theorem d_Ha_flaw_87 : decode m_Ha_flaw.2.1 87 = .ok (.invokespecial 66, 3) := by decide +kernel
theorem d_Ha_flaw_90 : decode m_Ha_flaw.2.1 90 = .ok (.athrow, 1) := by decide +kernel
theorem d_Ha_flaw_91 : decode m_Ha_flaw.2.1 91 = .ok (.aload 7, 2) := by decide +kernel
theorem d_Ha_flaw_93 : decode m_Ha_flaw.2.1 93 = .ok (.iload_n 2, 1) := by decide +kernel
theorem d_Ha_flaw_94 : decode m_Ha_flaw.2.1 94 = .ok (.iload_n 3, 1) := by decide +kernel
theorem d_Ha_flaw_95 : decode m_Ha_flaw.2.1 95 = .ok (.iload 4, 2) := by decide +kernel
theorem d_Ha_flaw_97 : decode m_Ha_flaw.2.1 97 = .ok (.iload 5, 2) := by decide +kernel
theorem d_Ha_flaw_99 : decode m_Ha_flaw.2.1 99 = .ok (.invokevirtual 117, 3) := by decide +kernel
theorem d_Ha_flaw_102 : decode m_Ha_flaw.2.1 102 = .ok (.aload 7, 2) := by decide +kernel
theorem d_Ha_flaw_104 : decode m_Ha_flaw.2.1 104 = .ok (.getfield 114, 3) := by decide +kernel
theorem d_Ha_flaw_107 : decode m_Ha_flaw.2.1 107 = .ok (.ireturn, 1) := by decide +kernel
theorem d_Ha_findSheet_0 : decode m_Ha_findSheet.2.1 0 = .ok (.aload_n 0, 1) := by decide +kernel
theorem d_Ha_findSheet_1 : decode m_Ha_findSheet.2.1 1 = .ok (.getfield 11, 3) := by decide +kernel
theorem d_Ha_findSheet_4 : decode m_Ha_findSheet.2.1 4 = .ok (.astore_n 2, 1) := by decide +kernel
theorem d_Ha_findSheet_5 : decode m_Ha_findSheet.2.1 5 = .ok (.aload_n 2, 1) := by decide +kernel
theorem d_Ha_findSheet_6 : decode m_Ha_findSheet.2.1 6 = .ok (.arraylength, 1) := by decide +kernel
theorem d_Ha_findSheet_7 : decode m_Ha_findSheet.2.1 7 = .ok (.istore_n 3, 1) := by decide +kernel
theorem d_Ha_findSheet_8 : decode m_Ha_findSheet.2.1 8 = .ok (.iconst 0, 1) := by decide +kernel
theorem d_Ha_findSheet_9 : decode m_Ha_findSheet.2.1 9 = .ok (.istore 4, 2) := by decide +kernel
theorem d_Ha_findSheet_11 : decode m_Ha_findSheet.2.1 11 = .ok (.iload 4, 2) := by decide +kernel
theorem d_Ha_findSheet_13 : decode m_Ha_findSheet.2.1 13 = .ok (.iload_n 3, 1) := by decide +kernel
theorem d_Ha_findSheet_14 : decode m_Ha_findSheet.2.1 14 = .ok (.if_icmp .ge 35, 3) := by decide +kernel
theorem d_Ha_findSheet_17 : decode m_Ha_findSheet.2.1 17 = .ok (.aload_n 2, 1) := by decide +kernel
theorem d_Ha_findSheet_18 : decode m_Ha_findSheet.2.1 18 = .ok (.iload 4, 2) := by decide +kernel
theorem d_Ha_findSheet_20 : decode m_Ha_findSheet.2.1 20 = .ok (.aaload, 1) := by decide +kernel
theorem d_Ha_findSheet_21 : decode m_Ha_findSheet.2.1 21 = .ok (.astore 5, 2) := by decide +kernel
theorem d_Ha_findSheet_23 : decode m_Ha_findSheet.2.1 23 = .ok (.aload 5, 2) := by decide +kernel
theorem d_Ha_findSheet_25 : decode m_Ha_findSheet.2.1 25 = .ok (.getfield 267, 3) := by decide +kernel
theorem d_Ha_findSheet_28 : decode m_Ha_findSheet.2.1 28 = .ok (.ifCond .eq 15, 3) := by decide +kernel
theorem d_Ha_findSheet_31 : decode m_Ha_findSheet.2.1 31 = .ok (.aload 5, 2) := by decide +kernel
theorem d_Ha_findSheet_33 : decode m_Ha_findSheet.2.1 33 = .ok (.getfield 271, 3) := by decide +kernel
theorem d_Ha_findSheet_36 : decode m_Ha_findSheet.2.1 36 = .ok (.iload_n 1, 1) := by decide +kernel
theorem d_Ha_findSheet_37 : decode m_Ha_findSheet.2.1 37 = .ok (.if_icmp .ne 6, 3) := by decide +kernel
theorem d_Ha_findSheet_40 : decode m_Ha_findSheet.2.1 40 = .ok (.aload 5, 2) := by decide +kernel
theorem d_Ha_findSheet_42 : decode m_Ha_findSheet.2.1 42 = .ok (.areturn, 1) := by decide +kernel
theorem d_Ha_findSheet_43 : decode m_Ha_findSheet.2.1 43 = .ok (.iinc 4 1, 3) := by decide +kernel
theorem d_Ha_findSheet_46 : decode m_Ha_findSheet.2.1 46 = .ok (.goto (-35), 3) := by decide +kernel
theorem d_Ha_findSheet_49 : decode m_Ha_findSheet.2.1 49 = .ok (.new 147, 3) := by decide +kernel
theorem d_Ha_findSheet_52 : decode m_Ha_findSheet.2.1 52 = .ok (.dup, 1) := by decide +kernel
theorem d_Ha_findSheet_53 : decode m_Ha_findSheet.2.1 53 = .ok (.invokespecial 149, 3) := by decide +kernel
theorem d_Ha_findSheet_56 : decode m_Ha_findSheet.2.1 56 = .ok (.athrow, 1) := by decide +kernel
theorem d_Ha_liesIn_0 : decode m_Ha_liesIn.2.1 0 = .ok (.iload_n 0, 1) := by decide +kernel
theorem d_Ha_liesIn_1 : decode m_Ha_liesIn.2.1 1 = .ok (.ifCond .lt 14, 3) := by decide +kernel
theorem d_Ha_liesIn_4 : decode m_Ha_liesIn.2.1 4 = .ok (.iload_n 0, 1) := by decide +kernel
theorem d_Ha_liesIn_5 : decode m_Ha_liesIn.2.1 5 = .ok (.iload_n 2, 1) := by decide +kernel
theorem d_Ha_liesIn_6 : decode m_Ha_liesIn.2.1 6 = .ok (.iload_n 1, 1) := by decide +kernel
theorem d_Ha_liesIn_7 : decode m_Ha_liesIn.2.1 7 = .ok (.isub, 1) := by decide +kernel
theorem d_Ha_liesIn_8 : decode m_Ha_liesIn.2.1 8 = .ok (.if_icmp .gt 7, 3) := by decide +kernel
theorem d_Ha_liesIn_11 : decode m_Ha_liesIn.2.1 11 = .ok (.iconst 1, 1) := by decide +kernel
theorem d_Ha_liesIn_12 : decode m_Ha_liesIn.2.1 12 = .ok (.goto 4, 3) := by decide +kernel
theorem d_Ha_liesIn_15 : decode m_Ha_liesIn.2.1 15 = .ok (.iconst 0, 1) := by decide +kernel
theorem d_Ha_liesIn_16 : decode m_Ha_liesIn.2.1 16 = .ok (.ireturn, 1) := by decide +kernel
theorem d_Gl_addFlaw_0 : decode m_Gl_addFlaw.2.1 0 = .ok (.aload_n 0, 1) := by decide +kernel
theorem d_Gl_addFlaw_1 : decode m_Gl_addFlaw.2.1 1 = .ok (.getfield 31, 3) := by decide +kernel
theorem d_Gl_addFlaw_4 : decode m_Gl_addFlaw.2.1 4 = .ok (.bipush 6, 2) := by decide +kernel
theorem d_Gl_addFlaw_6 : decode m_Gl_addFlaw.2.1 6 = .ok (.if_icmp .lt 4, 3) := by decide +kernel
theorem d_Gl_addFlaw_9 : decode m_Gl_addFlaw.2.1 9 = .ok (.return_, 1) := by decide +kernel
theorem d_Gl_addFlaw_10 : decode m_Gl_addFlaw.2.1 10 = .ok (.aload_n 0, 1) := by decide +kernel
theorem d_Gl_addFlaw_11 : decode m_Gl_addFlaw.2.1 11 = .ok (.getfield 9, 3) := by decide +kernel
theorem d_Gl_addFlaw_14 : decode m_Gl_addFlaw.2.1 14 = .ok (.aload_n 0, 1) := by decide +kernel
theorem d_Gl_addFlaw_15 : decode m_Gl_addFlaw.2.1 15 = .ok (.getfield 31, 3) := by decide +kernel
theorem d_Gl_addFlaw_18 : decode m_Gl_addFlaw.2.1 18 = .ok (.iload_n 1, 1) := by decide +kernel
theorem d_Gl_addFlaw_19 : decode m_Gl_addFlaw.2.1 19 = .ok (.iastore, 1) := by decide +kernel
theorem d_Gl_addFlaw_20 : decode m_Gl_addFlaw.2.1 20 = .ok (.aload_n 0, 1) := by decide +kernel
theorem d_Gl_addFlaw_21 : decode m_Gl_addFlaw.2.1 21 = .ok (.getfield 15, 3) := by decide +kernel
theorem d_Gl_addFlaw_24 : decode m_Gl_addFlaw.2.1 24 = .ok (.aload_n 0, 1) := by decide +kernel
theorem d_Gl_addFlaw_25 : decode m_Gl_addFlaw.2.1 25 = .ok (.getfield 31, 3) := by decide +kernel
theorem d_Gl_addFlaw_28 : decode m_Gl_addFlaw.2.1 28 = .ok (.iload_n 2, 1) := by decide +kernel
theorem d_Gl_addFlaw_29 : decode m_Gl_addFlaw.2.1 29 = .ok (.iastore, 1) := by decide +kernel
theorem d_Gl_addFlaw_30 : decode m_Gl_addFlaw.2.1 30 = .ok (.aload_n 0, 1) := by decide +kernel
theorem d_Gl_addFlaw_31 : decode m_Gl_addFlaw.2.1 31 = .ok (.getfield 18, 3) := by decide +kernel
theorem d_Gl_addFlaw_34 : decode m_Gl_addFlaw.2.1 34 = .ok (.aload_n 0, 1) := by decide +kernel
theorem d_Gl_addFlaw_35 : decode m_Gl_addFlaw.2.1 35 = .ok (.getfield 31, 3) := by decide +kernel
theorem d_Gl_addFlaw_38 : decode m_Gl_addFlaw.2.1 38 = .ok (.iload_n 3, 1) := by decide +kernel
theorem d_Gl_addFlaw_39 : decode m_Gl_addFlaw.2.1 39 = .ok (.iastore, 1) := by decide +kernel
theorem d_Gl_addFlaw_40 : decode m_Gl_addFlaw.2.1 40 = .ok (.aload_n 0, 1) := by decide +kernel
theorem d_Gl_addFlaw_41 : decode m_Gl_addFlaw.2.1 41 = .ok (.getfield 21, 3) := by decide +kernel
theorem d_Gl_addFlaw_44 : decode m_Gl_addFlaw.2.1 44 = .ok (.aload_n 0, 1) := by decide +kernel
theorem d_Gl_addFlaw_45 : decode m_Gl_addFlaw.2.1 45 = .ok (.getfield 31, 3) := by decide +kernel
theorem d_Gl_addFlaw_48 : decode m_Gl_addFlaw.2.1 48 = .ok (.iload 4, 2) := by decide +kernel
theorem d_Gl_addFlaw_50 : decode m_Gl_addFlaw.2.1 50 = .ok (.iastore, 1) := by decide +kernel
theorem d_Gl_addFlaw_51 : decode m_Gl_addFlaw.2.1 51 = .ok (.aload_n 0, 1) := by decide +kernel
theorem d_Gl_addFlaw_52 : decode m_Gl_addFlaw.2.1 52 = .ok (.dup, 1) := by decide +kernel
theorem d_Gl_addFlaw_53 : decode m_Gl_addFlaw.2.1 53 = .ok (.getfield 31, 3) := by decide +kernel
theorem d_Gl_addFlaw_56 : decode m_Gl_addFlaw.2.1 56 = .ok (.iconst 1, 1) := by decide +kernel
theorem d_Gl_addFlaw_57 : decode m_Gl_addFlaw.2.1 57 = .ok (.iadd, 1) := by decide +kernel
theorem d_Gl_addFlaw_58 : decode m_Gl_addFlaw.2.1 58 = .ok (.putfield 31, 3) := by decide +kernel
theorem d_Gl_addFlaw_61 : decode m_Gl_addFlaw.2.1 61 = .ok (.return_, 1) := by decide +kernel
theorem d_Lw_order_0 : decode m_Lw_order.2.1 0 = .ok (.aload 5, 2) := by decide +kernel
theorem d_Lw_order_2 : decode m_Lw_order.2.1 2 = .ok (.iconst 0, 1) := by decide +kernel
theorem d_Lw_order_3 : decode m_Lw_order.2.1 3 = .ok (.aload_n 0, 1) := by decide +kernel
theorem d_Lw_order_4 : decode m_Lw_order.2.1 4 = .ok (.iload_n 1, 1) := by decide +kernel
theorem d_Lw_order_5 : decode m_Lw_order.2.1 5 = .ok (.iload_n 2, 1) := by decide +kernel
theorem d_Lw_order_6 : decode m_Lw_order.2.1 6 = .ok (.iload_n 3, 1) := by decide +kernel
theorem d_Lw_order_7 : decode m_Lw_order.2.1 7 = .ok (.iload 4, 2) := by decide +kernel
theorem d_Lw_order_9 : decode m_Lw_order.2.1 9 = .ok (.invokevirtual 23, 3) := by decide +kernel
theorem d_Lw_order_12 : decode m_Lw_order.2.1 12 = .ok (.i2l, 1) := by decide +kernel
theorem d_Lw_order_13 : decode m_Lw_order.2.1 13 = .ok (.lastore, 1) := by decide +kernel
theorem d_Lw_order_14 : decode m_Lw_order.2.1 14 = .ok (.goto 11, 3) := by decide +kernel
theorem d_Lw_order_17 : decode m_Lw_order.2.1 17 = .ok (.astore 6, 2) := by decide +kernel
theorem d_Lw_order_19 : decode m_Lw_order.2.1 19 = .ok (.iconst 1, 1) := by decide +kernel
theorem d_Lw_order_20 : decode m_Lw_order.2.1 20 = .ok (.ireturn, 1) := by decide +kernel
theorem d_Lw_order_21 : decode m_Lw_order.2.1 21 = .ok (.astore 6, 2) := by decide +kernel
theorem d_Lw_order_23 : decode m_Lw_order.2.1 23 = .ok (.iconst 2, 1) := by decide +kernel
theorem d_Lw_order_24 : decode m_Lw_order.2.1 24 = .ok (.ireturn, 1) := by decide +kernel
theorem d_Lw_order_25 : decode m_Lw_order.2.1 25 = .ok (.iconst 0, 1) := by decide +kernel
theorem d_Lw_order_26 : decode m_Lw_order.2.1 26 = .ok (.ireturn, 1) := by decide +kernel
theorem d_Ha_order_0 : decode m_Ha_order.2.1 0 = .ok (.iload_n 1, 1) := by decide +kernel
theorem d_Ha_order_1 : decode m_Ha_order.2.1 1 = .ok (.invokestatic 53, 3) := by decide +kernel
theorem d_Ha_order_4 : decode m_Ha_order.2.1 4 = .ok (.ifCond .eq 23, 3) := by decide +kernel
theorem d_Ha_order_7 : decode m_Ha_order.2.1 7 = .ok (.iload_n 2, 1) := by decide +kernel
theorem d_Ha_order_8 : decode m_Ha_order.2.1 8 = .ok (.invokestatic 53, 3) := by decide +kernel
theorem d_Ha_order_11 : decode m_Ha_order.2.1 11 = .ok (.ifCond .eq 16, 3) := by decide +kernel
theorem d_Ha_order_14 : decode m_Ha_order.2.1 14 = .ok (.iload 4, 2) := by decide +kernel
theorem d_Ha_order_16 : decode m_Ha_order.2.1 16 = .ok (.iconst 1, 1) := by decide +kernel
theorem d_Ha_order_17 : decode m_Ha_order.2.1 17 = .ok (.if_icmp .lt 10, 3) := by decide +kernel
theorem d_Ha_order_20 : decode m_Ha_order.2.1 20 = .ok (.iload 4, 2) := by decide +kernel
theorem d_Ha_order_22 : decode m_Ha_order.2.1 22 = .ok (.bipush 6, 2) := by decide +kernel
theorem d_Ha_order_24 : decode m_Ha_order.2.1 24 = .ok (.if_icmp .le 11, 3) := by decide +kernel
theorem d_Ha_order_27 : decode m_Ha_order.2.1 27 = .ok (.new 57, 3) := by decide +kernel
theorem d_Ha_order_30 : decode m_Ha_order.2.1 30 = .ok (.dup, 1) := by decide +kernel
theorem d_Ha_order_31 : decode m_Ha_order.2.1 31 = .ok (.invokespecial 59, 3) := by decide +kernel
theorem d_Ha_order_34 : decode m_Ha_order.2.1 34 = .ok (.athrow, 1) := by decide +kernel
theorem d_Ha_order_35 : decode m_Ha_order.2.1 35 = .ok (.aload_n 0, 1) := by decide +kernel
theorem d_Ha_order_36 : decode m_Ha_order.2.1 36 = .ok (.getfield 18, 3) := by decide +kernel
theorem d_Ha_order_39 : decode m_Ha_order.2.1 39 = .ok (.getfield 121, 3) := by decide +kernel
theorem d_Ha_order_42 : decode m_Ha_order.2.1 42 = .ok (.bipush 6, 2) := by decide +kernel
theorem d_Ha_order_44 : decode m_Ha_order.2.1 44 = .ok (.if_icmp .lt 11, 3) := by decide +kernel
theorem d_Ha_order_47 : decode m_Ha_order.2.1 47 = .ok (.new 64, 3) := by decide +kernel
theorem d_Ha_order_50 : decode m_Ha_order.2.1 50 = .ok (.dup, 1) := by decide +kernel
theorem d_Ha_order_51 : decode m_Ha_order.2.1 51 = .ok (.invokespecial 66, 3) := by decide +kernel
theorem d_Ha_order_54 : decode m_Ha_order.2.1 54 = .ok (.athrow, 1) := by decide +kernel
theorem d_Ha_order_55 : decode m_Ha_order.2.1 55 = .ok (.aload_n 0, 1) := by decide +kernel
theorem d_Ha_order_56 : decode m_Ha_order.2.1 56 = .ok (.getfield 18, 3) := by decide +kernel
theorem d_Ha_order_59 : decode m_Ha_order.2.1 59 = .ok (.new 124, 3) := by decide +kernel
theorem d_Ha_order_62 : decode m_Ha_order.2.1 62 = .ok (.dup, 1) := by decide +kernel
theorem d_Ha_order_63 : decode m_Ha_order.2.1 63 = .ok (.iload_n 1, 1) := by decide +kernel
theorem d_Ha_order_64 : decode m_Ha_order.2.1 64 = .ok (.iload_n 2, 1) := by decide +kernel
theorem d_Ha_order_65 : decode m_Ha_order.2.1 65 = .ok (.iload_n 3, 1) := by decide +kernel
theorem d_Ha_order_66 : decode m_Ha_order.2.1 66 = .ok (.iload 4, 2) := by decide +kernel
theorem d_Ha_order_68 : decode m_Ha_order.2.1 68 = .ok (.invokespecial 126, 3) := by decide +kernel
theorem d_Ha_order_71 : decode m_Ha_order.2.1 71 = .ok (.invokevirtual 129, 3) := by decide +kernel
theorem d_Ha_order_74 : decode m_Ha_order.2.1 74 = .ok (.ireturn, 1) := by decide +kernel
theorem d_Or_init_0 : decode m_Or_init.2.1 0 = .ok (.aload_n 0, 1) := by decide +kernel
theorem d_Or_init_1 : decode m_Or_init.2.1 1 = .ok (.invokespecial 1, 3) := by decide +kernel
theorem d_Or_init_4 : decode m_Or_init.2.1 4 = .ok (.aload_n 0, 1) := by decide +kernel
theorem d_Or_init_5 : decode m_Or_init.2.1 5 = .ok (.iload_n 1, 1) := by decide +kernel
theorem d_Or_init_6 : decode m_Or_init.2.1 6 = .ok (.putfield 7, 3) := by decide +kernel
theorem d_Or_init_9 : decode m_Or_init.2.1 9 = .ok (.aload_n 0, 1) := by decide +kernel
theorem d_Or_init_10 : decode m_Or_init.2.1 10 = .ok (.iload_n 2, 1) := by decide +kernel
theorem d_Or_init_11 : decode m_Or_init.2.1 11 = .ok (.putfield 13, 3) := by decide +kernel
theorem d_Or_init_14 : decode m_Or_init.2.1 14 = .ok (.aload_n 0, 1) := by decide +kernel
theorem d_Or_init_15 : decode m_Or_init.2.1 15 = .ok (.iload_n 3, 1) := by decide +kernel
theorem d_Or_init_16 : decode m_Or_init.2.1 16 = .ok (.putfield 16, 3) := by decide +kernel
theorem d_Or_init_19 : decode m_Or_init.2.1 19 = .ok (.aload_n 0, 1) := by decide +kernel
theorem d_Or_init_20 : decode m_Or_init.2.1 20 = .ok (.iload 4, 2) := by decide +kernel
theorem d_Or_init_22 : decode m_Or_init.2.1 22 = .ok (.putfield 20, 3) := by decide +kernel
theorem d_Or_init_25 : decode m_Or_init.2.1 25 = .ok (.return_, 1) := by decide +kernel
theorem d_Bk_add_0 : decode m_Bk_add.2.1 0 = .ok (.aload_n 0, 1) := by decide +kernel
theorem d_Bk_add_1 : decode m_Bk_add.2.1 1 = .ok (.getfield 21, 3) := by decide +kernel
theorem d_Bk_add_4 : decode m_Bk_add.2.1 4 = .ok (.bipush 6, 2) := by decide +kernel
theorem d_Bk_add_6 : decode m_Bk_add.2.1 6 = .ok (.if_icmp .lt 5, 3) := by decide +kernel
theorem d_Bk_add_9 : decode m_Bk_add.2.1 9 = .ok (.iconst (-1), 1) := by decide +kernel
theorem d_Bk_add_10 : decode m_Bk_add.2.1 10 = .ok (.ireturn, 1) := by decide +kernel
theorem d_Bk_add_11 : decode m_Bk_add.2.1 11 = .ok (.aload_n 0, 1) := by decide +kernel
theorem d_Bk_add_12 : decode m_Bk_add.2.1 12 = .ok (.getfield 21, 3) := by decide +kernel
theorem d_Bk_add_15 : decode m_Bk_add.2.1 15 = .ok (.istore_n 2, 1) := by decide +kernel
theorem d_Bk_add_16 : decode m_Bk_add.2.1 16 = .ok (.iload_n 2, 1) := by decide +kernel
theorem d_Bk_add_17 : decode m_Bk_add.2.1 17 = .ok (.istore_n 3, 1) := by decide +kernel
theorem d_Bk_add_18 : decode m_Bk_add.2.1 18 = .ok (.iload_n 3, 1) := by decide +kernel
theorem d_Bk_add_19 : decode m_Bk_add.2.1 19 = .ok (.ifCond .le 43, 3) := by decide +kernel
theorem d_Bk_add_22 : decode m_Bk_add.2.1 22 = .ok (.aload_n 1, 1) := by decide +kernel
theorem d_Bk_add_23 : decode m_Bk_add.2.1 23 = .ok (.aload_n 0, 1) := by decide +kernel
theorem d_Bk_add_24 : decode m_Bk_add.2.1 24 = .ok (.getfield 11, 3) := by decide +kernel
theorem d_Bk_add_27 : decode m_Bk_add.2.1 27 = .ok (.aload_n 0, 1) := by decide +kernel
theorem d_Bk_add_28 : decode m_Bk_add.2.1 28 = .ok (.getfield 17, 3) := by decide +kernel
theorem d_Bk_add_31 : decode m_Bk_add.2.1 31 = .ok (.iload_n 3, 1) := by decide +kernel
theorem d_Bk_add_32 : decode m_Bk_add.2.1 32 = .ok (.iconst 1, 1) := by decide +kernel
theorem d_Bk_add_33 : decode m_Bk_add.2.1 33 = .ok (.isub, 1) := by decide +kernel
theorem d_Bk_add_34 : decode m_Bk_add.2.1 34 = .ok (.iaload, 1) := by decide +kernel
theorem d_Bk_add_35 : decode m_Bk_add.2.1 35 = .ok (.aaload, 1) := by decide +kernel
theorem d_Bk_add_36 : decode m_Bk_add.2.1 36 = .ok (.invokevirtual 25, 3) := by decide +kernel
theorem d_Bk_add_39 : decode m_Bk_add.2.1 39 = .ok (.ifCond .eq 23, 3) := by decide +kernel
theorem d_Bk_add_42 : decode m_Bk_add.2.1 42 = .ok (.aload_n 0, 1) := by decide +kernel
theorem d_Bk_add_43 : decode m_Bk_add.2.1 43 = .ok (.getfield 17, 3) := by decide +kernel
theorem d_Bk_add_46 : decode m_Bk_add.2.1 46 = .ok (.iload_n 3, 1) := by decide +kernel
theorem d_Bk_add_47 : decode m_Bk_add.2.1 47 = .ok (.aload_n 0, 1) := by decide +kernel
theorem d_Bk_add_48 : decode m_Bk_add.2.1 48 = .ok (.getfield 17, 3) := by decide +kernel
theorem d_Bk_add_51 : decode m_Bk_add.2.1 51 = .ok (.iload_n 3, 1) := by decide +kernel
theorem d_Bk_add_52 : decode m_Bk_add.2.1 52 = .ok (.iconst 1, 1) := by decide +kernel
theorem d_Bk_add_53 : decode m_Bk_add.2.1 53 = .ok (.isub, 1) := by decide +kernel
theorem d_Bk_add_54 : decode m_Bk_add.2.1 54 = .ok (.iaload, 1) := by decide +kernel
theorem d_Bk_add_55 : decode m_Bk_add.2.1 55 = .ok (.iastore, 1) := by decide +kernel
theorem d_Bk_add_56 : decode m_Bk_add.2.1 56 = .ok (.iinc 3 (-1), 3) := by decide +kernel
theorem d_Bk_add_59 : decode m_Bk_add.2.1 59 = .ok (.goto (-41), 3) := by decide +kernel
theorem d_Bk_add_62 : decode m_Bk_add.2.1 62 = .ok (.aload_n 0, 1) := by decide +kernel
theorem d_Bk_add_63 : decode m_Bk_add.2.1 63 = .ok (.getfield 17, 3) := by decide +kernel
theorem d_Bk_add_66 : decode m_Bk_add.2.1 66 = .ok (.iload_n 3, 1) := by decide +kernel
theorem d_Bk_add_67 : decode m_Bk_add.2.1 67 = .ok (.iload_n 2, 1) := by decide +kernel
theorem d_Bk_add_68 : decode m_Bk_add.2.1 68 = .ok (.iastore, 1) := by decide +kernel
theorem d_Bk_add_69 : decode m_Bk_add.2.1 69 = .ok (.aload_n 0, 1) := by decide +kernel
theorem d_Bk_add_70 : decode m_Bk_add.2.1 70 = .ok (.getfield 11, 3) := by decide +kernel
theorem d_Bk_add_73 : decode m_Bk_add.2.1 73 = .ok (.iload_n 2, 1) := by decide +kernel
theorem d_Bk_add_74 : decode m_Bk_add.2.1 74 = .ok (.aload_n 1, 1) := by decide +kernel
theorem d_Bk_add_75 : decode m_Bk_add.2.1 75 = .ok (.aastore, 1) := by decide +kernel
theorem d_Bk_add_76 : decode m_Bk_add.2.1 76 = .ok (.aload_n 0, 1) := by decide +kernel
theorem d_Bk_add_77 : decode m_Bk_add.2.1 77 = .ok (.dup, 1) := by decide +kernel
theorem d_Bk_add_78 : decode m_Bk_add.2.1 78 = .ok (.getfield 21, 3) := by decide +kernel
theorem d_Bk_add_81 : decode m_Bk_add.2.1 81 = .ok (.iconst 1, 1) := by decide +kernel
theorem d_Bk_add_82 : decode m_Bk_add.2.1 82 = .ok (.iadd, 1) := by decide +kernel
theorem d_Bk_add_83 : decode m_Bk_add.2.1 83 = .ok (.putfield 21, 3) := by decide +kernel
theorem d_Bk_add_86 : decode m_Bk_add.2.1 86 = .ok (.iload_n 2, 1) := by decide +kernel
theorem d_Bk_add_87 : decode m_Bk_add.2.1 87 = .ok (.ireturn, 1) := by decide +kernel
theorem d_Or_goesBefore_0 : decode m_Or_goesBefore.2.1 0 = .ok (.aload_n 0, 1) := by decide +kernel
theorem d_Or_goesBefore_1 : decode m_Or_goesBefore.2.1 1 = .ok (.getfield 13, 3) := by decide +kernel
theorem d_Or_goesBefore_4 : decode m_Or_goesBefore.2.1 4 = .ok (.aload_n 1, 1) := by decide +kernel
theorem d_Or_goesBefore_5 : decode m_Or_goesBefore.2.1 5 = .ok (.getfield 13, 3) := by decide +kernel
theorem d_Or_goesBefore_8 : decode m_Or_goesBefore.2.1 8 = .ok (.if_icmp .eq 22, 3) := by decide +kernel
theorem d_Or_goesBefore_11 : decode m_Or_goesBefore.2.1 11 = .ok (.aload_n 0, 1) := by decide +kernel
theorem d_Or_goesBefore_12 : decode m_Or_goesBefore.2.1 12 = .ok (.getfield 13, 3) := by decide +kernel
theorem d_Or_goesBefore_15 : decode m_Or_goesBefore.2.1 15 = .ok (.aload_n 1, 1) := by decide +kernel
theorem d_Or_goesBefore_16 : decode m_Or_goesBefore.2.1 16 = .ok (.getfield 13, 3) := by decide +kernel
theorem d_Or_goesBefore_19 : decode m_Or_goesBefore.2.1 19 = .ok (.if_icmp .le 7, 3) := by decide +kernel
theorem d_Or_goesBefore_22 : decode m_Or_goesBefore.2.1 22 = .ok (.iconst 1, 1) := by decide +kernel
theorem d_Or_goesBefore_23 : decode m_Or_goesBefore.2.1 23 = .ok (.goto 23, 3) := by decide +kernel
theorem d_Or_goesBefore_26 : decode m_Or_goesBefore.2.1 26 = .ok (.iconst 0, 1) := by decide +kernel
theorem d_Or_goesBefore_27 : decode m_Or_goesBefore.2.1 27 = .ok (.goto 19, 3) := by decide +kernel
theorem d_Or_goesBefore_30 : decode m_Or_goesBefore.2.1 30 = .ok (.aload_n 0, 1) := by decide +kernel
theorem d_Or_goesBefore_31 : decode m_Or_goesBefore.2.1 31 = .ok (.getfield 7, 3) := by decide +kernel
theorem d_Or_goesBefore_34 : decode m_Or_goesBefore.2.1 34 = .ok (.aload_n 1, 1) := by decide +kernel
theorem d_Or_goesBefore_35 : decode m_Or_goesBefore.2.1 35 = .ok (.getfield 7, 3) := by decide +kernel
theorem d_Or_goesBefore_38 : decode m_Or_goesBefore.2.1 38 = .ok (.if_icmp .le 7, 3) := by decide +kernel
theorem d_Or_goesBefore_41 : decode m_Or_goesBefore.2.1 41 = .ok (.iconst 1, 1) := by decide +kernel
theorem d_Or_goesBefore_42 : decode m_Or_goesBefore.2.1 42 = .ok (.goto 4, 3) := by decide +kernel
theorem d_Or_goesBefore_45 : decode m_Or_goesBefore.2.1 45 = .ok (.iconst 0, 1) := by decide +kernel
theorem d_Or_goesBefore_46 : decode m_Or_goesBefore.2.1 46 = .ok (.ireturn, 1) := by decide +kernel
theorem d_Lw_plan_0 : decode m_Lw_plan.2.1 0 = .ok (.aload_n 2, 1) := by decide +kernel
theorem d_Lw_plan_1 : decode m_Lw_plan.2.1 1 = .ok (.iconst 0, 1) := by decide +kernel
theorem d_Lw_plan_2 : decode m_Lw_plan.2.1 2 = .ok (.aload_n 0, 1) := by decide +kernel
theorem d_Lw_plan_3 : decode m_Lw_plan.2.1 3 = .ok (.iload_n 1, 1) := by decide +kernel
theorem d_Lw_plan_4 : decode m_Lw_plan.2.1 4 = .ok (.invokevirtual 27, 3) := by decide +kernel
theorem d_Lw_plan_7 : decode m_Lw_plan.2.1 7 = .ok (.i2l, 1) := by decide +kernel
theorem d_Lw_plan_8 : decode m_Lw_plan.2.1 8 = .ok (.lastore, 1) := by decide +kernel
theorem d_Lw_plan_9 : decode m_Lw_plan.2.1 9 = .ok (.goto 9, 3) := by decide +kernel
theorem d_Lw_plan_12 : decode m_Lw_plan.2.1 12 = .ok (.astore_n 3, 1) := by decide +kernel
theorem d_Lw_plan_13 : decode m_Lw_plan.2.1 13 = .ok (.iconst 1, 1) := by decide +kernel
theorem d_Lw_plan_14 : decode m_Lw_plan.2.1 14 = .ok (.ireturn, 1) := by decide +kernel
theorem d_Lw_plan_15 : decode m_Lw_plan.2.1 15 = .ok (.astore_n 3, 1) := by decide +kernel
theorem d_Lw_plan_16 : decode m_Lw_plan.2.1 16 = .ok (.iconst 2, 1) := by decide +kernel
theorem d_Lw_plan_17 : decode m_Lw_plan.2.1 17 = .ok (.ireturn, 1) := by decide +kernel
end
section
theorem d_Lw_plan_18 : decode m_Lw_plan.2.1 18 = .ok (.iconst 0, 1) := by decide +kernel
theorem d_Lw_plan_19 : decode m_Lw_plan.2.1 19 = .ok (.ireturn, 1) := by decide +kernel
theorem d_Ha_plan_0 : decode m_Ha_plan.2.1 0 = .ok (.aload_n 0, 1) := by decide +kernel
theorem d_Ha_plan_1 : decode m_Ha_plan.2.1 1 = .ok (.iload_n 1, 1) := by decide +kernel
theorem d_Ha_plan_2 : decode m_Ha_plan.2.1 2 = .ok (.invokevirtual 89, 3) := by decide +kernel
theorem d_Ha_plan_5 : decode m_Ha_plan.2.1 5 = .ok (.astore_n 2, 1) := by decide +kernel
theorem d_Ha_plan_6 : decode m_Ha_plan.2.1 6 = .ok (.aload_n 2, 1) := by decide +kernel
theorem d_Ha_plan_7 : decode m_Ha_plan.2.1 7 = .ok (.getfield 104, 3) := by decide +kernel
theorem d_Ha_plan_10 : decode m_Ha_plan.2.1 10 = .ok (.invokevirtual 108, 3) := by decide +kernel
theorem d_Ha_plan_13 : decode m_Ha_plan.2.1 13 = .ok (.ifCond .eq 11, 3) := by decide +kernel
theorem d_Ha_plan_16 : decode m_Ha_plan.2.1 16 = .ok (.new 64, 3) := by decide +kernel
theorem d_Ha_plan_19 : decode m_Ha_plan.2.1 19 = .ok (.dup, 1) := by decide +kernel
theorem d_Ha_plan_20 : decode m_Ha_plan.2.1 20 = .ok (.invokespecial 66, 3) := by decide +kernel
theorem d_Ha_plan_23 : decode m_Ha_plan.2.1 23 = .ok (.athrow, 1) := by decide +kernel
theorem d_Ha_plan_24 : decode m_Ha_plan.2.1 24 = .ok (.aload_n 0, 1) := by decide +kernel
theorem d_Ha_plan_25 : decode m_Ha_plan.2.1 25 = .ok (.getfield 41, 3) := by decide +kernel
theorem d_Ha_plan_28 : decode m_Ha_plan.2.1 28 = .ok (.aload_n 2, 1) := by decide +kernel
theorem d_Ha_plan_29 : decode m_Ha_plan.2.1 29 = .ok (.getfield 67, 3) := by decide +kernel
theorem d_Ha_plan_32 : decode m_Ha_plan.2.1 32 = .ok (.invokevirtual 133, 3) := by decide +kernel
theorem d_Ha_plan_35 : decode m_Ha_plan.2.1 35 = .ok (.aload_n 0, 1) := by decide +kernel
theorem d_Ha_plan_36 : decode m_Ha_plan.2.1 36 = .ok (.aload_n 2, 1) := by decide +kernel
theorem d_Ha_plan_37 : decode m_Ha_plan.2.1 37 = .ok (.invokevirtual 137, 3) := by decide +kernel
theorem d_Ha_plan_40 : decode m_Ha_plan.2.1 40 = .ok (.ireturn, 1) := by decide +kernel
theorem d_St_fill_0 : decode m_St_fill.2.1 0 = .ok (.aload_n 0, 1) := by decide +kernel
theorem d_St_fill_1 : decode m_St_fill.2.1 1 = .ok (.getfield 15, 3) := by decide +kernel
theorem d_St_fill_4 : decode m_St_fill.2.1 4 = .ok (.invokevirtual 19, 3) := by decide +kernel
theorem d_St_fill_7 : decode m_St_fill.2.1 7 = .ok (.aload_n 0, 1) := by decide +kernel
theorem d_St_fill_8 : decode m_St_fill.2.1 8 = .ok (.iconst 0, 1) := by decide +kernel
theorem d_St_fill_9 : decode m_St_fill.2.1 9 = .ok (.putfield 24, 3) := by decide +kernel
theorem d_St_fill_12 : decode m_St_fill.2.1 12 = .ok (.iconst 0, 1) := by decide +kernel
theorem d_St_fill_13 : decode m_St_fill.2.1 13 = .ok (.istore_n 2, 1) := by decide +kernel
theorem d_St_fill_14 : decode m_St_fill.2.1 14 = .ok (.iload_n 2, 1) := by decide +kernel
theorem d_St_fill_15 : decode m_St_fill.2.1 15 = .ok (.bipush 36, 2) := by decide +kernel
theorem d_St_fill_17 : decode m_St_fill.2.1 17 = .ok (.if_icmp .ge 35, 3) := by decide +kernel
theorem d_St_fill_20 : decode m_St_fill.2.1 20 = .ok (.aload_n 0, 1) := by decide +kernel
theorem d_St_fill_21 : decode m_St_fill.2.1 21 = .ok (.iload_n 2, 1) := by decide +kernel
theorem d_St_fill_22 : decode m_St_fill.2.1 22 = .ok (.putfield 28, 3) := by decide +kernel
theorem d_St_fill_25 : decode m_St_fill.2.1 25 = .ok (.aload_n 0, 1) := by decide +kernel
theorem d_St_fill_26 : decode m_St_fill.2.1 26 = .ok (.aload_n 1, 1) := by decide +kernel
theorem d_St_fill_27 : decode m_St_fill.2.1 27 = .ok (.invokevirtual 31, 3) := by decide +kernel
theorem d_St_fill_30 : decode m_St_fill.2.1 30 = .ok (.istore_n 3, 1) := by decide +kernel
theorem d_St_fill_31 : decode m_St_fill.2.1 31 = .ok (.iload_n 3, 1) := by decide +kernel
theorem d_St_fill_32 : decode m_St_fill.2.1 32 = .ok (.ifCond .ne 4, 3) := by decide +kernel
theorem d_St_fill_35 : decode m_St_fill.2.1 35 = .ok (.return_, 1) := by decide +kernel
theorem d_St_fill_36 : decode m_St_fill.2.1 36 = .ok (.aload_n 0, 1) := by decide +kernel
theorem d_St_fill_37 : decode m_St_fill.2.1 37 = .ok (.dup, 1) := by decide +kernel
theorem d_St_fill_38 : decode m_St_fill.2.1 38 = .ok (.getfield 24, 3) := by decide +kernel
theorem d_St_fill_41 : decode m_St_fill.2.1 41 = .ok (.iload_n 3, 1) := by decide +kernel
theorem d_St_fill_42 : decode m_St_fill.2.1 42 = .ok (.iadd, 1) := by decide +kernel
theorem d_St_fill_43 : decode m_St_fill.2.1 43 = .ok (.putfield 24, 3) := by decide +kernel
theorem d_St_fill_46 : decode m_St_fill.2.1 46 = .ok (.iinc 2 1, 3) := by decide +kernel
theorem d_St_fill_49 : decode m_St_fill.2.1 49 = .ok (.goto (-35), 3) := by decide +kernel
theorem d_St_fill_52 : decode m_St_fill.2.1 52 = .ok (.return_, 1) := by decide +kernel
theorem d_La_clear_0 : decode m_La_clear.2.1 0 = .ok (.aload_n 0, 1) := by decide +kernel
theorem d_La_clear_1 : decode m_La_clear.2.1 1 = .ok (.iconst 0, 1) := by decide +kernel
theorem d_La_clear_2 : decode m_La_clear.2.1 2 = .ok (.putfield 27, 3) := by decide +kernel
theorem d_La_clear_5 : decode m_La_clear.2.1 5 = .ok (.return_, 1) := by decide +kernel
theorem d_St_stackColumn_0 : decode m_St_stackColumn.2.1 0 = .ok (.iconst 0, 1) := by decide +kernel
theorem d_St_stackColumn_1 : decode m_St_stackColumn.2.1 1 = .ok (.istore_n 2, 1) := by decide +kernel
theorem d_St_stackColumn_2 : decode m_St_stackColumn.2.1 2 = .ok (.aload_n 0, 1) := by decide +kernel
theorem d_St_stackColumn_3 : decode m_St_stackColumn.2.1 3 = .ok (.iconst 0, 1) := by decide +kernel
theorem d_St_stackColumn_4 : decode m_St_stackColumn.2.1 4 = .ok (.putfield 35, 3) := by decide +kernel
theorem d_St_stackColumn_7 : decode m_St_stackColumn.2.1 7 = .ok (.aload_n 0, 1) := by decide +kernel
theorem d_St_stackColumn_8 : decode m_St_stackColumn.2.1 8 = .ok (.aload_n 1, 1) := by decide +kernel
theorem d_St_stackColumn_9 : decode m_St_stackColumn.2.1 9 = .ok (.getfield 38, 3) := by decide +kernel
theorem d_St_stackColumn_12 : decode m_St_stackColumn.2.1 12 = .ok (.aload_n 0, 1) := by decide +kernel
theorem d_St_stackColumn_13 : decode m_St_stackColumn.2.1 13 = .ok (.getfield 24, 3) := by decide +kernel
theorem d_St_stackColumn_16 : decode m_St_stackColumn.2.1 16 = .ok (.isub, 1) := by decide +kernel
theorem d_St_stackColumn_17 : decode m_St_stackColumn.2.1 17 = .ok (.putfield 43, 3) := by decide +kernel
theorem d_St_stackColumn_20 : decode m_St_stackColumn.2.1 20 = .ok (.iconst 0, 1) := by decide +kernel
theorem d_St_stackColumn_21 : decode m_St_stackColumn.2.1 21 = .ok (.istore_n 3, 1) := by decide +kernel
theorem d_St_stackColumn_22 : decode m_St_stackColumn.2.1 22 = .ok (.iload_n 3, 1) := by decide +kernel
theorem d_St_stackColumn_23 : decode m_St_stackColumn.2.1 23 = .ok (.bipush 36, 2) := by decide +kernel
theorem d_St_stackColumn_25 : decode m_St_stackColumn.2.1 25 = .ok (.if_icmp .ge 79, 3) := by decide +kernel
theorem d_St_stackColumn_28 : decode m_St_stackColumn.2.1 28 = .ok (.aload_n 0, 1) := by decide +kernel
theorem d_St_stackColumn_29 : decode m_St_stackColumn.2.1 29 = .ok (.iload_n 3, 1) := by decide +kernel
theorem d_St_stackColumn_30 : decode m_St_stackColumn.2.1 30 = .ok (.putfield 46, 3) := by decide +kernel
theorem d_St_stackColumn_33 : decode m_St_stackColumn.2.1 33 = .ok (.aload_n 0, 1) := by decide +kernel
theorem d_St_stackColumn_34 : decode m_St_stackColumn.2.1 34 = .ok (.getfield 15, 3) := by decide +kernel
theorem d_St_stackColumn_37 : decode m_St_stackColumn.2.1 37 = .ok (.getfield 49, 3) := by decide +kernel
theorem d_St_stackColumn_40 : decode m_St_stackColumn.2.1 40 = .ok (.istore 4, 2) := by decide +kernel
theorem d_St_stackColumn_42 : decode m_St_stackColumn.2.1 42 = .ok (.iload 4, 2) := by decide +kernel
theorem d_St_stackColumn_44 : decode m_St_stackColumn.2.1 44 = .ok (.bipush 36, 2) := by decide +kernel
theorem d_St_stackColumn_46 : decode m_St_stackColumn.2.1 46 = .ok (.if_icmp .ge 11, 3) := by decide +kernel
theorem d_St_stackColumn_49 : decode m_St_stackColumn.2.1 49 = .ok (.aload_n 0, 1) := by decide +kernel
theorem d_St_stackColumn_50 : decode m_St_stackColumn.2.1 50 = .ok (.aload_n 1, 1) := by decide +kernel
theorem d_St_stackColumn_51 : decode m_St_stackColumn.2.1 51 = .ok (.invokevirtual 52, 3) := by decide +kernel
theorem d_St_stackColumn_54 : decode m_St_stackColumn.2.1 54 = .ok (.ifCond .ne 5, 3) := by decide +kernel
theorem d_St_stackColumn_57 : decode m_St_stackColumn.2.1 57 = .ok (.iload_n 2, 1) := by decide +kernel
theorem d_St_stackColumn_58 : decode m_St_stackColumn.2.1 58 = .ok (.ireturn, 1) := by decide +kernel
theorem d_St_stackColumn_59 : decode m_St_stackColumn.2.1 59 = .ok (.iload_n 3, 1) := by decide +kernel
theorem d_St_stackColumn_60 : decode m_St_stackColumn.2.1 60 = .ok (.ifCond .ne 19, 3) := by decide +kernel
theorem d_St_stackColumn_63 : decode m_St_stackColumn.2.1 63 = .ok (.aload_n 0, 1) := by decide +kernel
theorem d_St_stackColumn_64 : decode m_St_stackColumn.2.1 64 = .ok (.getfield 15, 3) := by decide +kernel
theorem d_St_stackColumn_67 : decode m_St_stackColumn.2.1 67 = .ok (.getfield 56, 3) := by decide +kernel
theorem d_St_stackColumn_70 : decode m_St_stackColumn.2.1 70 = .ok (.iload 4, 2) := by decide +kernel
theorem d_St_stackColumn_72 : decode m_St_stackColumn.2.1 72 = .ok (.iaload, 1) := by decide +kernel
theorem d_St_stackColumn_73 : decode m_St_stackColumn.2.1 73 = .ok (.istore_n 2, 1) := by decide +kernel
theorem d_St_stackColumn_74 : decode m_St_stackColumn.2.1 74 = .ok (.aload_n 0, 1) := by decide +kernel
theorem d_St_stackColumn_75 : decode m_St_stackColumn.2.1 75 = .ok (.iload_n 2, 1) := by decide +kernel
theorem d_St_stackColumn_76 : decode m_St_stackColumn.2.1 76 = .ok (.putfield 43, 3) := by decide +kernel
theorem d_St_stackColumn_79 : decode m_St_stackColumn.2.1 79 = .ok (.aload_n 0, 1) := by decide +kernel
theorem d_St_stackColumn_80 : decode m_St_stackColumn.2.1 80 = .ok (.dup, 1) := by decide +kernel
theorem d_St_stackColumn_81 : decode m_St_stackColumn.2.1 81 = .ok (.getfield 35, 3) := by decide +kernel
theorem d_St_stackColumn_84 : decode m_St_stackColumn.2.1 84 = .ok (.aload_n 0, 1) := by decide +kernel
theorem d_St_stackColumn_85 : decode m_St_stackColumn.2.1 85 = .ok (.getfield 15, 3) := by decide +kernel
theorem d_St_stackColumn_88 : decode m_St_stackColumn.2.1 88 = .ok (.getfield 59, 3) := by decide +kernel
theorem d_St_stackColumn_91 : decode m_St_stackColumn.2.1 91 = .ok (.iload 4, 2) := by decide +kernel
theorem d_St_stackColumn_93 : decode m_St_stackColumn.2.1 93 = .ok (.iaload, 1) := by decide +kernel
theorem d_St_stackColumn_94 : decode m_St_stackColumn.2.1 94 = .ok (.iadd, 1) := by decide +kernel
theorem d_St_stackColumn_95 : decode m_St_stackColumn.2.1 95 = .ok (.putfield 35, 3) := by decide +kernel
theorem d_St_stackColumn_98 : decode m_St_stackColumn.2.1 98 = .ok (.iinc 3 1, 3) := by decide +kernel
theorem d_St_stackColumn_101 : decode m_St_stackColumn.2.1 101 = .ok (.goto (-79), 3) := by decide +kernel
theorem d_St_stackColumn_104 : decode m_St_stackColumn.2.1 104 = .ok (.iload_n 2, 1) := by decide +kernel
theorem d_St_stackColumn_105 : decode m_St_stackColumn.2.1 105 = .ok (.ireturn, 1) := by decide +kernel
theorem d_St_takeFirst_0 : decode m_St_takeFirst.2.1 0 = .ok (.iconst 0, 1) := by decide +kernel
theorem d_St_takeFirst_1 : decode m_St_takeFirst.2.1 1 = .ok (.istore_n 2, 1) := by decide +kernel
theorem d_St_takeFirst_2 : decode m_St_takeFirst.2.1 2 = .ok (.iload_n 2, 1) := by decide +kernel
theorem d_St_takeFirst_3 : decode m_St_takeFirst.2.1 3 = .ok (.aload_n 0, 1) := by decide +kernel
theorem d_St_takeFirst_4 : decode m_St_takeFirst.2.1 4 = .ok (.getfield 9, 3) := by decide +kernel
theorem d_St_takeFirst_7 : decode m_St_takeFirst.2.1 7 = .ok (.getfield 62, 3) := by decide +kernel
theorem d_St_takeFirst_10 : decode m_St_takeFirst.2.1 10 = .ok (.if_icmp .ge 47, 3) := by decide +kernel
theorem d_St_takeFirst_13 : decode m_St_takeFirst.2.1 13 = .ok (.aload_n 0, 1) := by decide +kernel
theorem d_St_takeFirst_14 : decode m_St_takeFirst.2.1 14 = .ok (.aload_n 1, 1) := by decide +kernel
theorem d_St_takeFirst_15 : decode m_St_takeFirst.2.1 15 = .ok (.aload_n 0, 1) := by decide +kernel
theorem d_St_takeFirst_16 : decode m_St_takeFirst.2.1 16 = .ok (.getfield 9, 3) := by decide +kernel
theorem d_St_takeFirst_19 : decode m_St_takeFirst.2.1 19 = .ok (.getfield 65, 3) := by decide +kernel
theorem d_St_takeFirst_22 : decode m_St_takeFirst.2.1 22 = .ok (.iload_n 2, 1) := by decide +kernel
theorem d_St_takeFirst_23 : decode m_St_takeFirst.2.1 23 = .ok (.iaload, 1) := by decide +kernel
theorem d_St_takeFirst_24 : decode m_St_takeFirst.2.1 24 = .ok (.iconst 0, 1) := by decide +kernel
theorem d_St_takeFirst_25 : decode m_St_takeFirst.2.1 25 = .ok (.invokevirtual 68, 3) := by decide +kernel
theorem d_St_takeFirst_28 : decode m_St_takeFirst.2.1 28 = .ok (.ifCond .ne 21, 3) := by decide +kernel
theorem d_St_takeFirst_31 : decode m_St_takeFirst.2.1 31 = .ok (.aload_n 0, 1) := by decide +kernel
theorem d_St_takeFirst_32 : decode m_St_takeFirst.2.1 32 = .ok (.aload_n 1, 1) := by decide +kernel
theorem d_St_takeFirst_33 : decode m_St_takeFirst.2.1 33 = .ok (.aload_n 0, 1) := by decide +kernel
theorem d_St_takeFirst_34 : decode m_St_takeFirst.2.1 34 = .ok (.getfield 9, 3) := by decide +kernel
theorem d_St_takeFirst_37 : decode m_St_takeFirst.2.1 37 = .ok (.getfield 65, 3) := by decide +kernel
theorem d_St_takeFirst_40 : decode m_St_takeFirst.2.1 40 = .ok (.iload_n 2, 1) := by decide +kernel
theorem d_St_takeFirst_41 : decode m_St_takeFirst.2.1 41 = .ok (.iaload, 1) := by decide +kernel
theorem d_St_takeFirst_42 : decode m_St_takeFirst.2.1 42 = .ok (.iconst 1, 1) := by decide +kernel
theorem d_St_takeFirst_43 : decode m_St_takeFirst.2.1 43 = .ok (.invokevirtual 68, 3) := by decide +kernel
theorem d_St_takeFirst_46 : decode m_St_takeFirst.2.1 46 = .ok (.ifCond .eq 5, 3) := by decide +kernel
theorem d_St_takeFirst_49 : decode m_St_takeFirst.2.1 49 = .ok (.iconst 1, 1) := by decide +kernel
theorem d_St_takeFirst_50 : decode m_St_takeFirst.2.1 50 = .ok (.ireturn, 1) := by decide +kernel
theorem d_St_takeFirst_51 : decode m_St_takeFirst.2.1 51 = .ok (.iinc 2 1, 3) := by decide +kernel
theorem d_St_takeFirst_54 : decode m_St_takeFirst.2.1 54 = .ok (.goto (-52), 3) := by decide +kernel
theorem d_St_takeFirst_57 : decode m_St_takeFirst.2.1 57 = .ok (.iconst 0, 1) := by decide +kernel
theorem d_St_takeFirst_58 : decode m_St_takeFirst.2.1 58 = .ok (.ireturn, 1) := by decide +kernel
theorem d_St_take_0 : decode m_St_take.2.1 0 = .ok (.aload_n 0, 1) := by decide +kernel
theorem d_St_take_1 : decode m_St_take.2.1 1 = .ok (.getfield 9, 3) := by decide +kernel
theorem d_St_take_4 : decode m_St_take.2.1 4 = .ok (.iload_n 2, 1) := by decide +kernel
theorem d_St_take_5 : decode m_St_take.2.1 5 = .ok (.invokevirtual 72, 3) := by decide +kernel
theorem d_St_take_8 : decode m_St_take.2.1 8 = .ok (.astore 4, 2) := by decide +kernel
theorem d_St_take_10 : decode m_St_take.2.1 10 = .ok (.aload 4, 2) := by decide +kernel
theorem d_St_take_12 : decode m_St_take.2.1 12 = .ok (.ifnull 31, 3) := by decide +kernel
theorem d_St_take_15 : decode m_St_take.2.1 15 = .ok (.aload 4, 2) := by decide +kernel
theorem d_St_take_17 : decode m_St_take.2.1 17 = .ok (.getfield 76, 3) := by decide +kernel
theorem d_St_take_20 : decode m_St_take.2.1 20 = .ok (.aload_n 0, 1) := by decide +kernel
theorem d_St_take_21 : decode m_St_take.2.1 21 = .ok (.getfield 15, 3) := by decide +kernel
theorem d_St_take_24 : decode m_St_take.2.1 24 = .ok (.iload_n 2, 1) := by decide +kernel
theorem d_St_take_25 : decode m_St_take.2.1 25 = .ok (.invokevirtual 81, 3) := by decide +kernel
theorem d_St_take_28 : decode m_St_take.2.1 28 = .ok (.if_icmp .le 15, 3) := by decide +kernel
theorem d_St_take_31 : decode m_St_take.2.1 31 = .ok (.iload_n 3, 1) := by decide +kernel
theorem d_St_take_32 : decode m_St_take.2.1 32 = .ok (.ifCond .eq 13, 3) := by decide +kernel
theorem d_St_take_35 : decode m_St_take.2.1 35 = .ok (.aload 4, 2) := by decide +kernel
theorem d_St_take_37 : decode m_St_take.2.1 37 = .ok (.getfield 85, 3) := by decide +kernel
theorem d_St_take_40 : decode m_St_take.2.1 40 = .ok (.ifCond .ne 5, 3) := by decide +kernel
theorem d_St_take_43 : decode m_St_take.2.1 43 = .ok (.iconst 0, 1) := by decide +kernel
theorem d_St_take_44 : decode m_St_take.2.1 44 = .ok (.ireturn, 1) := by decide +kernel
theorem d_St_take_45 : decode m_St_take.2.1 45 = .ok (.iload_n 3, 1) := by decide +kernel
theorem d_St_take_46 : decode m_St_take.2.1 46 = .ok (.ifCond .eq 11, 3) := by decide +kernel
theorem d_St_take_49 : decode m_St_take.2.1 49 = .ok (.aload 4, 2) := by decide +kernel
theorem d_St_take_51 : decode m_St_take.2.1 51 = .ok (.getfield 89, 3) := by decide +kernel
theorem d_St_take_54 : decode m_St_take.2.1 54 = .ok (.goto 8, 3) := by decide +kernel
theorem d_St_take_57 : decode m_St_take.2.1 57 = .ok (.aload 4, 2) := by decide +kernel
theorem d_St_take_59 : decode m_St_take.2.1 59 = .ok (.getfield 91, 3) := by decide +kernel
theorem d_St_take_62 : decode m_St_take.2.1 62 = .ok (.istore 5, 2) := by decide +kernel
theorem d_St_take_64 : decode m_St_take.2.1 64 = .ok (.iload_n 3, 1) := by decide +kernel
theorem d_St_take_65 : decode m_St_take.2.1 65 = .ok (.ifCond .eq 11, 3) := by decide +kernel
theorem d_St_take_68 : decode m_St_take.2.1 68 = .ok (.aload 4, 2) := by decide +kernel
theorem d_St_take_70 : decode m_St_take.2.1 70 = .ok (.getfield 91, 3) := by decide +kernel
theorem d_St_take_73 : decode m_St_take.2.1 73 = .ok (.goto 8, 3) := by decide +kernel
theorem d_St_take_76 : decode m_St_take.2.1 76 = .ok (.aload 4, 2) := by decide +kernel
theorem d_St_take_78 : decode m_St_take.2.1 78 = .ok (.getfield 89, 3) := by decide +kernel
theorem d_St_take_81 : decode m_St_take.2.1 81 = .ok (.istore 6, 2) := by decide +kernel
theorem d_St_take_83 : decode m_St_take.2.1 83 = .ok (.iload 5, 2) := by decide +kernel
theorem d_St_take_85 : decode m_St_take.2.1 85 = .ok (.aload_n 0, 1) := by decide +kernel
theorem d_St_take_86 : decode m_St_take.2.1 86 = .ok (.getfield 43, 3) := by decide +kernel
theorem d_St_take_89 : decode m_St_take.2.1 89 = .ok (.if_icmp .gt 36, 3) := by decide +kernel
theorem d_St_take_92 : decode m_St_take.2.1 92 = .ok (.iload 6, 2) := by decide +kernel
theorem d_St_take_94 : decode m_St_take.2.1 94 = .ok (.aload_n 1, 1) := by decide +kernel
theorem d_St_take_95 : decode m_St_take.2.1 95 = .ok (.getfield 92, 3) := by decide +kernel
theorem d_St_take_98 : decode m_St_take.2.1 98 = .ok (.aload_n 0, 1) := by decide +kernel
theorem d_St_take_99 : decode m_St_take.2.1 99 = .ok (.getfield 35, 3) := by decide +kernel
theorem d_St_take_102 : decode m_St_take.2.1 102 = .ok (.isub, 1) := by decide +kernel
theorem d_St_take_103 : decode m_St_take.2.1 103 = .ok (.if_icmp .gt 22, 3) := by decide +kernel
theorem d_St_take_106 : decode m_St_take.2.1 106 = .ok (.aload_n 1, 1) := by decide +kernel
theorem d_St_take_107 : decode m_St_take.2.1 107 = .ok (.aload_n 0, 1) := by decide +kernel
theorem d_St_take_108 : decode m_St_take.2.1 108 = .ok (.getfield 24, 3) := by decide +kernel
theorem d_St_take_111 : decode m_St_take.2.1 111 = .ok (.aload_n 0, 1) := by decide +kernel
theorem d_St_take_112 : decode m_St_take.2.1 112 = .ok (.getfield 35, 3) := by decide +kernel
theorem d_St_take_115 : decode m_St_take.2.1 115 = .ok (.iload 5, 2) := by decide +kernel
theorem d_St_take_117 : decode m_St_take.2.1 117 = .ok (.iload 6, 2) := by decide +kernel
theorem d_St_take_119 : decode m_St_take.2.1 119 = .ok (.invokevirtual 93, 3) := by decide +kernel
theorem d_St_take_122 : decode m_St_take.2.1 122 = .ok (.ifCond .ne 5, 3) := by decide +kernel
theorem d_St_take_125 : decode m_St_take.2.1 125 = .ok (.iconst 0, 1) := by decide +kernel
theorem d_St_take_126 : decode m_St_take.2.1 126 = .ok (.ireturn, 1) := by decide +kernel
theorem d_St_take_127 : decode m_St_take.2.1 127 = .ok (.aload_n 0, 1) := by decide +kernel
theorem d_St_take_128 : decode m_St_take.2.1 128 = .ok (.getfield 15, 3) := by decide +kernel
theorem d_St_take_131 : decode m_St_take.2.1 131 = .ok (.iload_n 2, 1) := by decide +kernel
theorem d_St_take_132 : decode m_St_take.2.1 132 = .ok (.iload 5, 2) := by decide +kernel
theorem d_St_take_134 : decode m_St_take.2.1 134 = .ok (.iload 6, 2) := by decide +kernel
theorem d_St_take_136 : decode m_St_take.2.1 136 = .ok (.aload_n 0, 1) := by decide +kernel
theorem d_St_take_137 : decode m_St_take.2.1 137 = .ok (.getfield 28, 3) := by decide +kernel
theorem d_St_take_140 : decode m_St_take.2.1 140 = .ok (.aload_n 0, 1) := by decide +kernel
theorem d_St_take_141 : decode m_St_take.2.1 141 = .ok (.getfield 46, 3) := by decide +kernel
theorem d_St_take_144 : decode m_St_take.2.1 144 = .ok (.invokevirtual 97, 3) := by decide +kernel
theorem d_St_take_147 : decode m_St_take.2.1 147 = .ok (.iconst 1, 1) := by decide +kernel
theorem d_St_take_148 : decode m_St_take.2.1 148 = .ok (.ireturn, 1) := by decide +kernel
theorem d_Bk_at_0 : decode m_Bk_at.2.1 0 = .ok (.iload_n 1, 1) := by decide +kernel
theorem d_Bk_at_1 : decode m_Bk_at.2.1 1 = .ok (.ifCond .lt 20, 3) := by decide +kernel
theorem d_Bk_at_4 : decode m_Bk_at.2.1 4 = .ok (.iload_n 1, 1) := by decide +kernel
theorem d_Bk_at_5 : decode m_Bk_at.2.1 5 = .ok (.aload_n 0, 1) := by decide +kernel
theorem d_Bk_at_6 : decode m_Bk_at.2.1 6 = .ok (.getfield 21, 3) := by decide +kernel
theorem d_Bk_at_9 : decode m_Bk_at.2.1 9 = .ok (.if_icmp .ge 12, 3) := by decide +kernel
theorem d_Bk_at_12 : decode m_Bk_at.2.1 12 = .ok (.aload_n 0, 1) := by decide +kernel
theorem d_Bk_at_13 : decode m_Bk_at.2.1 13 = .ok (.getfield 11, 3) := by decide +kernel
theorem d_Bk_at_16 : decode m_Bk_at.2.1 16 = .ok (.iload_n 1, 1) := by decide +kernel
theorem d_Bk_at_17 : decode m_Bk_at.2.1 17 = .ok (.aaload, 1) := by decide +kernel
theorem d_Bk_at_18 : decode m_Bk_at.2.1 18 = .ok (.goto 4, 3) := by decide +kernel
theorem d_Bk_at_21 : decode m_Bk_at.2.1 21 = .ok (.aconst_null, 1) := by decide +kernel
theorem d_Bk_at_22 : decode m_Bk_at.2.1 22 = .ok (.areturn, 1) := by decide +kernel
theorem d_La_countOf_0 : decode m_La_countOf.2.1 0 = .ok (.iconst 0, 1) := by decide +kernel
theorem d_La_countOf_1 : decode m_La_countOf.2.1 1 = .ok (.istore_n 2, 1) := by decide +kernel
theorem d_La_countOf_2 : decode m_La_countOf.2.1 2 = .ok (.iconst 0, 1) := by decide +kernel
theorem d_La_countOf_3 : decode m_La_countOf.2.1 3 = .ok (.istore_n 3, 1) := by decide +kernel
theorem d_La_countOf_4 : decode m_La_countOf.2.1 4 = .ok (.iload_n 3, 1) := by decide +kernel
theorem d_La_countOf_5 : decode m_La_countOf.2.1 5 = .ok (.aload_n 0, 1) := by decide +kernel
theorem d_La_countOf_6 : decode m_La_countOf.2.1 6 = .ok (.getfield 27, 3) := by decide +kernel
theorem d_La_countOf_9 : decode m_La_countOf.2.1 9 = .ok (.if_icmp .ge 22, 3) := by decide +kernel
theorem d_La_countOf_12 : decode m_La_countOf.2.1 12 = .ok (.aload_n 0, 1) := by decide +kernel
theorem d_La_countOf_13 : decode m_La_countOf.2.1 13 = .ok (.getfield 9, 3) := by decide +kernel
theorem d_La_countOf_16 : decode m_La_countOf.2.1 16 = .ok (.iload_n 3, 1) := by decide +kernel
theorem d_La_countOf_17 : decode m_La_countOf.2.1 17 = .ok (.iaload, 1) := by decide +kernel
theorem d_La_countOf_18 : decode m_La_countOf.2.1 18 = .ok (.iload_n 1, 1) := by decide +kernel
theorem d_La_countOf_19 : decode m_La_countOf.2.1 19 = .ok (.if_icmp .ne 6, 3) := by decide +kernel
theorem d_La_countOf_22 : decode m_La_countOf.2.1 22 = .ok (.iinc 2 1, 3) := by decide +kernel
theorem d_La_countOf_25 : decode m_La_countOf.2.1 25 = .ok (.iinc 3 1, 3) := by decide +kernel
theorem d_La_countOf_28 : decode m_La_countOf.2.1 28 = .ok (.goto (-24), 3) := by decide +kernel
theorem d_La_countOf_31 : decode m_La_countOf.2.1 31 = .ok (.iload_n 2, 1) := by decide +kernel
theorem d_La_countOf_32 : decode m_La_countOf.2.1 32 = .ok (.ireturn, 1) := by decide +kernel
theorem d_Gl_isClear_0 : decode m_Gl_isClear.2.1 0 = .ok (.iconst 0, 1) := by decide +kernel
theorem d_Gl_isClear_1 : decode m_Gl_isClear.2.1 1 = .ok (.istore 5, 2) := by decide +kernel
theorem d_Gl_isClear_3 : decode m_Gl_isClear.2.1 3 = .ok (.iload 5, 2) := by decide +kernel
theorem d_Gl_isClear_5 : decode m_Gl_isClear.2.1 5 = .ok (.aload_n 0, 1) := by decide +kernel
theorem d_Gl_isClear_6 : decode m_Gl_isClear.2.1 6 = .ok (.getfield 31, 3) := by decide +kernel
theorem d_Gl_isClear_9 : decode m_Gl_isClear.2.1 9 = .ok (.if_icmp .ge 100, 3) := by decide +kernel
theorem d_Gl_isClear_12 : decode m_Gl_isClear.2.1 12 = .ok (.iload_n 1, 1) := by decide +kernel
theorem d_Gl_isClear_13 : decode m_Gl_isClear.2.1 13 = .ok (.iload_n 3, 1) := by decide +kernel
theorem d_Gl_isClear_14 : decode m_Gl_isClear.2.1 14 = .ok (.iadd, 1) := by decide +kernel
theorem d_Gl_isClear_15 : decode m_Gl_isClear.2.1 15 = .ok (.aload_n 0, 1) := by decide +kernel
theorem d_Gl_isClear_16 : decode m_Gl_isClear.2.1 16 = .ok (.getfield 9, 3) := by decide +kernel
theorem d_Gl_isClear_19 : decode m_Gl_isClear.2.1 19 = .ok (.iload 5, 2) := by decide +kernel
theorem d_Gl_isClear_21 : decode m_Gl_isClear.2.1 21 = .ok (.iaload, 1) := by decide +kernel
theorem d_Gl_isClear_22 : decode m_Gl_isClear.2.1 22 = .ok (.if_icmp .le 22, 3) := by decide +kernel
theorem d_Gl_isClear_25 : decode m_Gl_isClear.2.1 25 = .ok (.aload_n 0, 1) := by decide +kernel
theorem d_Gl_isClear_26 : decode m_Gl_isClear.2.1 26 = .ok (.getfield 9, 3) := by decide +kernel
theorem d_Gl_isClear_29 : decode m_Gl_isClear.2.1 29 = .ok (.iload 5, 2) := by decide +kernel
theorem d_Gl_isClear_31 : decode m_Gl_isClear.2.1 31 = .ok (.iaload, 1) := by decide +kernel
theorem d_Gl_isClear_32 : decode m_Gl_isClear.2.1 32 = .ok (.aload_n 0, 1) := by decide +kernel
theorem d_Gl_isClear_33 : decode m_Gl_isClear.2.1 33 = .ok (.getfield 18, 3) := by decide +kernel
theorem d_Gl_isClear_36 : decode m_Gl_isClear.2.1 36 = .ok (.iload 5, 2) := by decide +kernel
theorem d_Gl_isClear_38 : decode m_Gl_isClear.2.1 38 = .ok (.iaload, 1) := by decide +kernel
theorem d_Gl_isClear_39 : decode m_Gl_isClear.2.1 39 = .ok (.iadd, 1) := by decide +kernel
theorem d_Gl_isClear_40 : decode m_Gl_isClear.2.1 40 = .ok (.iload_n 1, 1) := by decide +kernel
theorem d_Gl_isClear_41 : decode m_Gl_isClear.2.1 41 = .ok (.if_icmp .gt 7, 3) := by decide +kernel
theorem d_Gl_isClear_44 : decode m_Gl_isClear.2.1 44 = .ok (.iconst 1, 1) := by decide +kernel
theorem d_Gl_isClear_45 : decode m_Gl_isClear.2.1 45 = .ok (.goto 4, 3) := by decide +kernel
theorem d_Gl_isClear_48 : decode m_Gl_isClear.2.1 48 = .ok (.iconst 0, 1) := by decide +kernel
theorem d_Gl_isClear_49 : decode m_Gl_isClear.2.1 49 = .ok (.istore 6, 2) := by decide +kernel
theorem d_Gl_isClear_51 : decode m_Gl_isClear.2.1 51 = .ok (.iload_n 2, 1) := by decide +kernel
theorem d_Gl_isClear_52 : decode m_Gl_isClear.2.1 52 = .ok (.iload 4, 2) := by decide +kernel
theorem d_Gl_isClear_54 : decode m_Gl_isClear.2.1 54 = .ok (.iadd, 1) := by decide +kernel
theorem d_Gl_isClear_55 : decode m_Gl_isClear.2.1 55 = .ok (.aload_n 0, 1) := by decide +kernel
theorem d_Gl_isClear_56 : decode m_Gl_isClear.2.1 56 = .ok (.getfield 15, 3) := by decide +kernel
theorem d_Gl_isClear_59 : decode m_Gl_isClear.2.1 59 = .ok (.iload 5, 2) := by decide +kernel
theorem d_Gl_isClear_61 : decode m_Gl_isClear.2.1 61 = .ok (.iaload, 1) := by decide +kernel
theorem d_Gl_isClear_62 : decode m_Gl_isClear.2.1 62 = .ok (.if_icmp .le 22, 3) := by decide +kernel
theorem d_Gl_isClear_65 : decode m_Gl_isClear.2.1 65 = .ok (.aload_n 0, 1) := by decide +kernel
theorem d_Gl_isClear_66 : decode m_Gl_isClear.2.1 66 = .ok (.getfield 15, 3) := by decide +kernel
theorem d_Gl_isClear_69 : decode m_Gl_isClear.2.1 69 = .ok (.iload 5, 2) := by decide +kernel
theorem d_Gl_isClear_71 : decode m_Gl_isClear.2.1 71 = .ok (.iaload, 1) := by decide +kernel
theorem d_Gl_isClear_72 : decode m_Gl_isClear.2.1 72 = .ok (.aload_n 0, 1) := by decide +kernel
theorem d_Gl_isClear_73 : decode m_Gl_isClear.2.1 73 = .ok (.getfield 21, 3) := by decide +kernel
theorem d_Gl_isClear_76 : decode m_Gl_isClear.2.1 76 = .ok (.iload 5, 2) := by decide +kernel
theorem d_Gl_isClear_78 : decode m_Gl_isClear.2.1 78 = .ok (.iaload, 1) := by decide +kernel
theorem d_Gl_isClear_79 : decode m_Gl_isClear.2.1 79 = .ok (.iadd, 1) := by decide +kernel
theorem d_Gl_isClear_80 : decode m_Gl_isClear.2.1 80 = .ok (.iload_n 2, 1) := by decide +kernel
theorem d_Gl_isClear_81 : decode m_Gl_isClear.2.1 81 = .ok (.if_icmp .gt 7, 3) := by decide +kernel
theorem d_Gl_isClear_84 : decode m_Gl_isClear.2.1 84 = .ok (.iconst 1, 1) := by decide +kernel
theorem d_Gl_isClear_85 : decode m_Gl_isClear.2.1 85 = .ok (.goto 4, 3) := by decide +kernel
theorem d_Gl_isClear_88 : decode m_Gl_isClear.2.1 88 = .ok (.iconst 0, 1) := by decide +kernel
theorem d_Gl_isClear_89 : decode m_Gl_isClear.2.1 89 = .ok (.istore 7, 2) := by decide +kernel
theorem d_Gl_isClear_91 : decode m_Gl_isClear.2.1 91 = .ok (.iload 6, 2) := by decide +kernel
theorem d_Gl_isClear_93 : decode m_Gl_isClear.2.1 93 = .ok (.ifCond .ne 10, 3) := by decide +kernel
theorem d_Gl_isClear_96 : decode m_Gl_isClear.2.1 96 = .ok (.iload 7, 2) := by decide +kernel
theorem d_Gl_isClear_98 : decode m_Gl_isClear.2.1 98 = .ok (.ifCond .ne 5, 3) := by decide +kernel
theorem d_Gl_isClear_101 : decode m_Gl_isClear.2.1 101 = .ok (.iconst 0, 1) := by decide +kernel
theorem d_Gl_isClear_102 : decode m_Gl_isClear.2.1 102 = .ok (.ireturn, 1) := by decide +kernel
theorem d_Gl_isClear_103 : decode m_Gl_isClear.2.1 103 = .ok (.iinc 5 1, 3) := by decide +kernel
theorem d_Gl_isClear_106 : decode m_Gl_isClear.2.1 106 = .ok (.goto (-103), 3) := by decide +kernel
theorem d_Gl_isClear_109 : decode m_Gl_isClear.2.1 109 = .ok (.iconst 1, 1) := by decide +kernel
theorem d_Gl_isClear_110 : decode m_Gl_isClear.2.1 110 = .ok (.ireturn, 1) := by decide +kernel
theorem d_La_put_0 : decode m_La_put.2.1 0 = .ok (.aload_n 0, 1) := by decide +kernel
theorem d_La_put_1 : decode m_La_put.2.1 1 = .ok (.getfield 27, 3) := by decide +kernel
theorem d_La_put_4 : decode m_La_put.2.1 4 = .ok (.bipush 36, 2) := by decide +kernel
theorem d_La_put_6 : decode m_La_put.2.1 6 = .ok (.if_icmp .lt 4, 3) := by decide +kernel
theorem d_La_put_9 : decode m_La_put.2.1 9 = .ok (.return_, 1) := by decide +kernel
theorem d_La_put_10 : decode m_La_put.2.1 10 = .ok (.aload_n 0, 1) := by decide +kernel
theorem d_La_put_11 : decode m_La_put.2.1 11 = .ok (.getfield 9, 3) := by decide +kernel
theorem d_La_put_14 : decode m_La_put.2.1 14 = .ok (.aload_n 0, 1) := by decide +kernel
theorem d_La_put_15 : decode m_La_put.2.1 15 = .ok (.getfield 27, 3) := by decide +kernel
theorem d_La_put_18 : decode m_La_put.2.1 18 = .ok (.iload_n 1, 1) := by decide +kernel
theorem d_La_put_19 : decode m_La_put.2.1 19 = .ok (.iastore, 1) := by decide +kernel
theorem d_La_put_20 : decode m_La_put.2.1 20 = .ok (.aload_n 0, 1) := by decide +kernel
theorem d_La_put_21 : decode m_La_put.2.1 21 = .ok (.getfield 15, 3) := by decide +kernel
theorem d_La_put_24 : decode m_La_put.2.1 24 = .ok (.aload_n 0, 1) := by decide +kernel
theorem d_La_put_25 : decode m_La_put.2.1 25 = .ok (.getfield 27, 3) := by decide +kernel
theorem d_La_put_28 : decode m_La_put.2.1 28 = .ok (.iload_n 2, 1) := by decide +kernel
theorem d_La_put_29 : decode m_La_put.2.1 29 = .ok (.iastore, 1) := by decide +kernel
theorem d_La_put_30 : decode m_La_put.2.1 30 = .ok (.aload_n 0, 1) := by decide +kernel
theorem d_La_put_31 : decode m_La_put.2.1 31 = .ok (.getfield 18, 3) := by decide +kernel
theorem d_La_put_34 : decode m_La_put.2.1 34 = .ok (.aload_n 0, 1) := by decide +kernel
theorem d_La_put_35 : decode m_La_put.2.1 35 = .ok (.getfield 27, 3) := by decide +kernel
theorem d_La_put_38 : decode m_La_put.2.1 38 = .ok (.iload_n 3, 1) := by decide +kernel
theorem d_La_put_39 : decode m_La_put.2.1 39 = .ok (.iastore, 1) := by decide +kernel
theorem d_La_put_40 : decode m_La_put.2.1 40 = .ok (.aload_n 0, 1) := by decide +kernel
theorem d_La_put_41 : decode m_La_put.2.1 41 = .ok (.getfield 21, 3) := by decide +kernel
theorem d_La_put_44 : decode m_La_put.2.1 44 = .ok (.aload_n 0, 1) := by decide +kernel
theorem d_La_put_45 : decode m_La_put.2.1 45 = .ok (.getfield 27, 3) := by decide +kernel
theorem d_La_put_48 : decode m_La_put.2.1 48 = .ok (.iload 4, 2) := by decide +kernel
theorem d_La_put_50 : decode m_La_put.2.1 50 = .ok (.iastore, 1) := by decide +kernel
theorem d_La_put_51 : decode m_La_put.2.1 51 = .ok (.aload_n 0, 1) := by decide +kernel
theorem d_La_put_52 : decode m_La_put.2.1 52 = .ok (.getfield 24, 3) := by decide +kernel
theorem d_La_put_55 : decode m_La_put.2.1 55 = .ok (.aload_n 0, 1) := by decide +kernel
theorem d_La_put_56 : decode m_La_put.2.1 56 = .ok (.getfield 27, 3) := by decide +kernel
theorem d_La_put_59 : decode m_La_put.2.1 59 = .ok (.iload 5, 2) := by decide +kernel
theorem d_La_put_61 : decode m_La_put.2.1 61 = .ok (.iastore, 1) := by decide +kernel
theorem d_La_put_62 : decode m_La_put.2.1 62 = .ok (.aload_n 0, 1) := by decide +kernel
theorem d_La_put_63 : decode m_La_put.2.1 63 = .ok (.dup, 1) := by decide +kernel
theorem d_La_put_64 : decode m_La_put.2.1 64 = .ok (.getfield 27, 3) := by decide +kernel
theorem d_La_put_67 : decode m_La_put.2.1 67 = .ok (.iconst 1, 1) := by decide +kernel
theorem d_La_put_68 : decode m_La_put.2.1 68 = .ok (.iadd, 1) := by decide +kernel
theorem d_La_put_69 : decode m_La_put.2.1 69 = .ok (.putfield 27, 3) := by decide +kernel
theorem d_La_put_72 : decode m_La_put.2.1 72 = .ok (.return_, 1) := by decide +kernel
theorem d_Ha_adoptLayout_0 : decode m_Ha_adoptLayout.2.1 0 = .ok (.aload_n 0, 1) := by decide +kernel
theorem d_Ha_adoptLayout_1 : decode m_Ha_adoptLayout.2.1 1 = .ok (.getfield 32, 3) := by decide +kernel
theorem d_Ha_adoptLayout_4 : decode m_Ha_adoptLayout.2.1 4 = .ok (.getfield 279, 3) := by decide +kernel
theorem d_Ha_adoptLayout_7 : decode m_Ha_adoptLayout.2.1 7 = .ok (.ifCond .ne 5, 3) := by decide +kernel
theorem d_Ha_adoptLayout_10 : decode m_Ha_adoptLayout.2.1 10 = .ok (.iconst 0, 1) := by decide +kernel
theorem d_Ha_adoptLayout_11 : decode m_Ha_adoptLayout.2.1 11 = .ok (.ireturn, 1) := by decide +kernel
theorem d_Ha_adoptLayout_12 : decode m_Ha_adoptLayout.2.1 12 = .ok (.aload_n 1, 1) := by decide +kernel
theorem d_Ha_adoptLayout_13 : decode m_Ha_adoptLayout.2.1 13 = .ok (.getfield 104, 3) := by decide +kernel
theorem d_Ha_adoptLayout_16 : decode m_Ha_adoptLayout.2.1 16 = .ok (.aload_n 0, 1) := by decide +kernel
theorem d_Ha_adoptLayout_17 : decode m_Ha_adoptLayout.2.1 17 = .ok (.getfield 32, 3) := by decide +kernel
theorem d_Ha_adoptLayout_20 : decode m_Ha_adoptLayout.2.1 20 = .ok (.aload_n 1, 1) := by decide +kernel
theorem d_Ha_adoptLayout_21 : decode m_Ha_adoptLayout.2.1 21 = .ok (.getfield 67, 3) := by decide +kernel
theorem d_Ha_adoptLayout_24 : decode m_Ha_adoptLayout.2.1 24 = .ok (.getfield 93, 3) := by decide +kernel
theorem d_Ha_adoptLayout_27 : decode m_Ha_adoptLayout.2.1 27 = .ok (.aload_n 1, 1) := by decide +kernel
theorem d_Ha_adoptLayout_28 : decode m_Ha_adoptLayout.2.1 28 = .ok (.getfield 67, 3) := by decide +kernel
theorem d_Ha_adoptLayout_31 : decode m_Ha_adoptLayout.2.1 31 = .ok (.getfield 101, 3) := by decide +kernel
theorem d_Ha_adoptLayout_34 : decode m_Ha_adoptLayout.2.1 34 = .ok (.invokevirtual 280, 3) := by decide +kernel
theorem d_Ha_adoptLayout_37 : decode m_Ha_adoptLayout.2.1 37 = .ok (.iconst 0, 1) := by decide +kernel
theorem d_Ha_adoptLayout_38 : decode m_Ha_adoptLayout.2.1 38 = .ok (.istore_n 2, 1) := by decide +kernel
theorem d_Ha_adoptLayout_39 : decode m_Ha_adoptLayout.2.1 39 = .ok (.iload_n 2, 1) := by decide +kernel
theorem d_Ha_adoptLayout_40 : decode m_Ha_adoptLayout.2.1 40 = .ok (.aload_n 0, 1) := by decide +kernel
theorem d_Ha_adoptLayout_41 : decode m_Ha_adoptLayout.2.1 41 = .ok (.getfield 32, 3) := by decide +kernel
theorem d_Ha_adoptLayout_44 : decode m_Ha_adoptLayout.2.1 44 = .ok (.getfield 279, 3) := by decide +kernel
theorem d_Ha_adoptLayout_47 : decode m_Ha_adoptLayout.2.1 47 = .ok (.if_icmp .ge 25, 3) := by decide +kernel
theorem d_Ha_adoptLayout_50 : decode m_Ha_adoptLayout.2.1 50 = .ok (.aload_n 0, 1) := by decide +kernel
theorem d_Ha_adoptLayout_51 : decode m_Ha_adoptLayout.2.1 51 = .ok (.getfield 18, 3) := by decide +kernel
theorem d_Ha_adoptLayout_54 : decode m_Ha_adoptLayout.2.1 54 = .ok (.aload_n 0, 1) := by decide +kernel
theorem d_Ha_adoptLayout_55 : decode m_Ha_adoptLayout.2.1 55 = .ok (.getfield 32, 3) := by decide +kernel
theorem d_Ha_adoptLayout_58 : decode m_Ha_adoptLayout.2.1 58 = .ok (.getfield 284, 3) := by decide +kernel
theorem d_Ha_adoptLayout_61 : decode m_Ha_adoptLayout.2.1 61 = .ok (.iload_n 2, 1) := by decide +kernel
theorem d_Ha_adoptLayout_62 : decode m_Ha_adoptLayout.2.1 62 = .ok (.iaload, 1) := by decide +kernel
theorem d_Ha_adoptLayout_63 : decode m_Ha_adoptLayout.2.1 63 = .ok (.invokevirtual 287, 3) := by decide +kernel
theorem d_Ha_adoptLayout_66 : decode m_Ha_adoptLayout.2.1 66 = .ok (.iinc 2 1, 3) := by decide +kernel
theorem d_Ha_adoptLayout_69 : decode m_Ha_adoptLayout.2.1 69 = .ok (.goto (-30), 3) := by decide +kernel
theorem d_Ha_adoptLayout_72 : decode m_Ha_adoptLayout.2.1 72 = .ok (.aload_n 0, 1) := by decide +kernel
theorem d_Ha_adoptLayout_73 : decode m_Ha_adoptLayout.2.1 73 = .ok (.getfield 32, 3) := by decide +kernel
theorem d_Ha_adoptLayout_76 : decode m_Ha_adoptLayout.2.1 76 = .ok (.getfield 279, 3) := by decide +kernel
theorem d_Ha_adoptLayout_79 : decode m_Ha_adoptLayout.2.1 79 = .ok (.ireturn, 1) := by decide +kernel
theorem d_Tr_grow_0 : decode m_Tr_grow.2.1 0 = .ok (.aload_n 0, 1) := by decide +kernel
theorem d_Tr_grow_1 : decode m_Tr_grow.2.1 1 = .ok (.invokevirtual 40, 3) := by decide +kernel
theorem d_Tr_grow_4 : decode m_Tr_grow.2.1 4 = .ok (.iconst 0, 1) := by decide +kernel
theorem d_Tr_grow_5 : decode m_Tr_grow.2.1 5 = .ok (.istore 4, 2) := by decide +kernel
theorem d_Tr_grow_7 : decode m_Tr_grow.2.1 7 = .ok (.aload_n 1, 1) := by decide +kernel
theorem d_Tr_grow_8 : decode m_Tr_grow.2.1 8 = .ok (.invokevirtual 43, 3) := by decide +kernel
theorem d_Tr_grow_11 : decode m_Tr_grow.2.1 11 = .ok (.istore 5, 2) := by decide +kernel
theorem d_Tr_grow_13 : decode m_Tr_grow.2.1 13 = .ok (.iconst 0, 1) := by decide +kernel
theorem d_Tr_grow_14 : decode m_Tr_grow.2.1 14 = .ok (.istore 6, 2) := by decide +kernel
theorem d_Tr_grow_16 : decode m_Tr_grow.2.1 16 = .ok (.iload 6, 2) := by decide +kernel
theorem d_Tr_grow_18 : decode m_Tr_grow.2.1 18 = .ok (.iload 5, 2) := by decide +kernel
theorem d_Tr_grow_20 : decode m_Tr_grow.2.1 20 = .ok (.if_icmp .ge 72, 3) := by decide +kernel
theorem d_Tr_grow_23 : decode m_Tr_grow.2.1 23 = .ok (.aload_n 1, 1) := by decide +kernel
theorem d_Tr_grow_24 : decode m_Tr_grow.2.1 24 = .ok (.iload 6, 2) := by decide +kernel
theorem d_Tr_grow_26 : decode m_Tr_grow.2.1 26 = .ok (.invokevirtual 49, 3) := by decide +kernel
theorem d_Tr_grow_29 : decode m_Tr_grow.2.1 29 = .ok (.istore 7, 2) := by decide +kernel
theorem d_Tr_grow_31 : decode m_Tr_grow.2.1 31 = .ok (.iload 7, 2) := by decide +kernel
theorem d_Tr_grow_33 : decode m_Tr_grow.2.1 33 = .ok (.iload_n 2, 1) := by decide +kernel
theorem d_Tr_grow_34 : decode m_Tr_grow.2.1 34 = .ok (.iload 4, 2) := by decide +kernel
theorem d_Tr_grow_36 : decode m_Tr_grow.2.1 36 = .ok (.isub, 1) := by decide +kernel
theorem d_Tr_grow_37 : decode m_Tr_grow.2.1 37 = .ok (.if_icmp .ge 21, 3) := by decide +kernel
theorem d_Tr_grow_40 : decode m_Tr_grow.2.1 40 = .ok (.aload_n 0, 1) := by decide +kernel
theorem d_Tr_grow_41 : decode m_Tr_grow.2.1 41 = .ok (.iconst 0, 1) := by decide +kernel
theorem d_Tr_grow_42 : decode m_Tr_grow.2.1 42 = .ok (.iload 4, 2) := by decide +kernel
theorem d_Tr_grow_44 : decode m_Tr_grow.2.1 44 = .ok (.iconst 0, 1) := by decide +kernel
theorem d_Tr_grow_45 : decode m_Tr_grow.2.1 45 = .ok (.iload_n 2, 1) := by decide +kernel
theorem d_Tr_grow_46 : decode m_Tr_grow.2.1 46 = .ok (.iload 4, 2) := by decide +kernel
theorem d_Tr_grow_48 : decode m_Tr_grow.2.1 48 = .ok (.isub, 1) := by decide +kernel
theorem d_Tr_grow_49 : decode m_Tr_grow.2.1 49 = .ok (.iload_n 3, 1) := by decide +kernel
theorem d_Tr_grow_50 : decode m_Tr_grow.2.1 50 = .ok (.iload 7, 2) := by decide +kernel
theorem d_Tr_grow_52 : decode m_Tr_grow.2.1 52 = .ok (.invokevirtual 53, 3) := by decide +kernel
theorem d_Tr_grow_55 : decode m_Tr_grow.2.1 55 = .ok (.goto 4, 3) := by decide +kernel
theorem d_Tr_grow_58 : decode m_Tr_grow.2.1 58 = .ok (.iconst (-1), 1) := by decide +kernel
theorem d_Tr_grow_59 : decode m_Tr_grow.2.1 59 = .ok (.istore 8, 2) := by decide +kernel
theorem d_Tr_grow_61 : decode m_Tr_grow.2.1 61 = .ok (.aload_n 0, 1) := by decide +kernel
theorem d_Tr_grow_62 : decode m_Tr_grow.2.1 62 = .ok (.aload_n 1, 1) := by decide +kernel
theorem d_Tr_grow_63 : decode m_Tr_grow.2.1 63 = .ok (.iload 6, 2) := by decide +kernel
theorem d_Tr_grow_65 : decode m_Tr_grow.2.1 65 = .ok (.iload 4, 2) := by decide +kernel
theorem d_Tr_grow_67 : decode m_Tr_grow.2.1 67 = .ok (.iload 7, 2) := by decide +kernel
theorem d_Tr_grow_69 : decode m_Tr_grow.2.1 69 = .ok (.iload_n 3, 1) := by decide +kernel
theorem d_Tr_grow_70 : decode m_Tr_grow.2.1 70 = .ok (.invokevirtual 57, 3) := by decide +kernel
theorem d_Tr_grow_73 : decode m_Tr_grow.2.1 73 = .ok (.aload_n 0, 1) := by decide +kernel
theorem d_Tr_grow_74 : decode m_Tr_grow.2.1 74 = .ok (.iload 8, 2) := by decide +kernel
theorem d_Tr_grow_76 : decode m_Tr_grow.2.1 76 = .ok (.invokevirtual 61, 3) := by decide +kernel
theorem d_Tr_grow_79 : decode m_Tr_grow.2.1 79 = .ok (.iload 4, 2) := by decide +kernel
theorem d_Tr_grow_81 : decode m_Tr_grow.2.1 81 = .ok (.iload 7, 2) := by decide +kernel
theorem d_Tr_grow_83 : decode m_Tr_grow.2.1 83 = .ok (.iadd, 1) := by decide +kernel
theorem d_Tr_grow_84 : decode m_Tr_grow.2.1 84 = .ok (.istore 4, 2) := by decide +kernel
theorem d_Tr_grow_86 : decode m_Tr_grow.2.1 86 = .ok (.iinc 6 1, 3) := by decide +kernel
theorem d_Tr_grow_89 : decode m_Tr_grow.2.1 89 = .ok (.goto (-73), 3) := by decide +kernel
theorem d_Tr_grow_92 : decode m_Tr_grow.2.1 92 = .ok (.aload_n 0, 1) := by decide +kernel
theorem d_Tr_grow_93 : decode m_Tr_grow.2.1 93 = .ok (.iload 4, 2) := by decide +kernel
theorem d_Tr_grow_95 : decode m_Tr_grow.2.1 95 = .ok (.iconst 0, 1) := by decide +kernel
theorem d_Tr_grow_96 : decode m_Tr_grow.2.1 96 = .ok (.iload_n 2, 1) := by decide +kernel
theorem d_Tr_grow_97 : decode m_Tr_grow.2.1 97 = .ok (.iload 4, 2) := by decide +kernel
theorem d_Tr_grow_99 : decode m_Tr_grow.2.1 99 = .ok (.isub, 1) := by decide +kernel
theorem d_Tr_grow_100 : decode m_Tr_grow.2.1 100 = .ok (.iload_n 3, 1) := by decide +kernel
theorem d_Tr_grow_101 : decode m_Tr_grow.2.1 101 = .ok (.invokevirtual 65, 3) := by decide +kernel
theorem d_Tr_grow_104 : decode m_Tr_grow.2.1 104 = .ok (.aload_n 0, 1) := by decide +kernel
theorem d_Tr_grow_105 : decode m_Tr_grow.2.1 105 = .ok (.getfield 33, 3) := by decide +kernel
theorem d_Tr_grow_108 : decode m_Tr_grow.2.1 108 = .ok (.iconst 0, 1) := by decide +kernel
theorem d_Tr_grow_109 : decode m_Tr_grow.2.1 109 = .ok (.iconst 1, 1) := by decide +kernel
theorem d_Tr_grow_110 : decode m_Tr_grow.2.1 110 = .ok (.iastore, 1) := by decide +kernel
theorem d_Tr_grow_111 : decode m_Tr_grow.2.1 111 = .ok (.return_, 1) := by decide +kernel
theorem d_Tr_clear_0 : decode m_Tr_clear.2.1 0 = .ok (.aload_n 0, 1) := by decide +kernel
theorem d_Tr_clear_1 : decode m_Tr_clear.2.1 1 = .ok (.iconst 0, 1) := by decide +kernel
theorem d_Tr_clear_2 : decode m_Tr_clear.2.1 2 = .ok (.putfield 36, 3) := by decide +kernel
theorem d_Tr_clear_5 : decode m_Tr_clear.2.1 5 = .ok (.return_, 1) := by decide +kernel
theorem d_La_columns_0 : decode m_La_columns.2.1 0 = .ok (.iconst 0, 1) := by decide +kernel
theorem d_La_columns_1 : decode m_La_columns.2.1 1 = .ok (.istore_n 1, 1) := by decide +kernel
theorem d_La_columns_2 : decode m_La_columns.2.1 2 = .ok (.iconst 0, 1) := by decide +kernel
theorem d_La_columns_3 : decode m_La_columns.2.1 3 = .ok (.istore_n 2, 1) := by decide +kernel
theorem d_La_columns_4 : decode m_La_columns.2.1 4 = .ok (.iload_n 2, 1) := by decide +kernel
theorem d_La_columns_5 : decode m_La_columns.2.1 5 = .ok (.aload_n 0, 1) := by decide +kernel
theorem d_La_columns_6 : decode m_La_columns.2.1 6 = .ok (.getfield 27, 3) := by decide +kernel
theorem d_La_columns_9 : decode m_La_columns.2.1 9 = .ok (.if_icmp .ge 22, 3) := by decide +kernel
theorem d_La_columns_12 : decode m_La_columns.2.1 12 = .ok (.iload_n 1, 1) := by decide +kernel
theorem d_La_columns_13 : decode m_La_columns.2.1 13 = .ok (.aload_n 0, 1) := by decide +kernel
theorem d_La_columns_14 : decode m_La_columns.2.1 14 = .ok (.getfield 21, 3) := by decide +kernel
theorem d_La_columns_17 : decode m_La_columns.2.1 17 = .ok (.iload_n 2, 1) := by decide +kernel
theorem d_La_columns_18 : decode m_La_columns.2.1 18 = .ok (.iaload, 1) := by decide +kernel
theorem d_La_columns_19 : decode m_La_columns.2.1 19 = .ok (.iconst 1, 1) := by decide +kernel
theorem d_La_columns_20 : decode m_La_columns.2.1 20 = .ok (.iadd, 1) := by decide +kernel
theorem d_La_columns_21 : decode m_La_columns.2.1 21 = .ok (.invokestatic 31, 3) := by decide +kernel
theorem d_La_columns_24 : decode m_La_columns.2.1 24 = .ok (.istore_n 1, 1) := by decide +kernel
theorem d_La_columns_25 : decode m_La_columns.2.1 25 = .ok (.iinc 2 1, 3) := by decide +kernel
theorem d_La_columns_28 : decode m_La_columns.2.1 28 = .ok (.goto (-24), 3) := by decide +kernel
theorem d_La_columns_31 : decode m_La_columns.2.1 31 = .ok (.iload_n 1, 1) := by decide +kernel
theorem d_La_columns_32 : decode m_La_columns.2.1 32 = .ok (.ireturn, 1) := by decide +kernel
theorem d_La_columnWidth_0 : decode m_La_columnWidth.2.1 0 = .ok (.iconst 0, 1) := by decide +kernel
theorem d_La_columnWidth_1 : decode m_La_columnWidth.2.1 1 = .ok (.istore_n 2, 1) := by decide +kernel
theorem d_La_columnWidth_2 : decode m_La_columnWidth.2.1 2 = .ok (.aload_n 0, 1) := by decide +kernel
theorem d_La_columnWidth_3 : decode m_La_columnWidth.2.1 3 = .ok (.iload_n 1, 1) := by decide +kernel
theorem d_La_columnWidth_4 : decode m_La_columnWidth.2.1 4 = .ok (.invokevirtual 41, 3) := by decide +kernel
theorem d_La_columnWidth_7 : decode m_La_columnWidth.2.1 7 = .ok (.istore_n 3, 1) := by decide +kernel
theorem d_La_columnWidth_8 : decode m_La_columnWidth.2.1 8 = .ok (.iconst 0, 1) := by decide +kernel
theorem d_La_columnWidth_9 : decode m_La_columnWidth.2.1 9 = .ok (.istore 4, 2) := by decide +kernel
theorem d_La_columnWidth_11 : decode m_La_columnWidth.2.1 11 = .ok (.iload 4, 2) := by decide +kernel
theorem d_La_columnWidth_13 : decode m_La_columnWidth.2.1 13 = .ok (.iload_n 3, 1) := by decide +kernel
theorem d_La_columnWidth_14 : decode m_La_columnWidth.2.1 14 = .ok (.if_icmp .ge 21, 3) := by decide +kernel
theorem d_La_columnWidth_17 : decode m_La_columnWidth.2.1 17 = .ok (.iload_n 2, 1) := by decide +kernel
theorem d_La_columnWidth_18 : decode m_La_columnWidth.2.1 18 = .ok (.aload_n 0, 1) := by decide +kernel
theorem d_La_columnWidth_19 : decode m_La_columnWidth.2.1 19 = .ok (.iload_n 1, 1) := by decide +kernel
theorem d_La_columnWidth_20 : decode m_La_columnWidth.2.1 20 = .ok (.iload 4, 2) := by decide +kernel
theorem d_La_columnWidth_22 : decode m_La_columnWidth.2.1 22 = .ok (.invokevirtual 45, 3) := by decide +kernel
theorem d_La_columnWidth_25 : decode m_La_columnWidth.2.1 25 = .ok (.invokestatic 31, 3) := by decide +kernel
theorem d_La_columnWidth_28 : decode m_La_columnWidth.2.1 28 = .ok (.istore_n 2, 1) := by decide +kernel
theorem d_La_columnWidth_29 : decode m_La_columnWidth.2.1 29 = .ok (.iinc 4 1, 3) := by decide +kernel
theorem d_La_columnWidth_32 : decode m_La_columnWidth.2.1 32 = .ok (.goto (-21), 3) := by decide +kernel
theorem d_La_columnWidth_35 : decode m_La_columnWidth.2.1 35 = .ok (.iload_n 2, 1) := by decide +kernel
theorem d_La_columnWidth_36 : decode m_La_columnWidth.2.1 36 = .ok (.ireturn, 1) := by decide +kernel
theorem d_La_rowsIn_0 : decode m_La_rowsIn.2.1 0 = .ok (.iconst 0, 1) := by decide +kernel
theorem d_La_rowsIn_1 : decode m_La_rowsIn.2.1 1 = .ok (.istore_n 2, 1) := by decide +kernel
theorem d_La_rowsIn_2 : decode m_La_rowsIn.2.1 2 = .ok (.iconst 0, 1) := by decide +kernel
theorem d_La_rowsIn_3 : decode m_La_rowsIn.2.1 3 = .ok (.istore_n 3, 1) := by decide +kernel
theorem d_La_rowsIn_4 : decode m_La_rowsIn.2.1 4 = .ok (.iload_n 3, 1) := by decide +kernel
theorem d_La_rowsIn_5 : decode m_La_rowsIn.2.1 5 = .ok (.aload_n 0, 1) := by decide +kernel
theorem d_La_rowsIn_6 : decode m_La_rowsIn.2.1 6 = .ok (.getfield 27, 3) := by decide +kernel
theorem d_La_rowsIn_9 : decode m_La_rowsIn.2.1 9 = .ok (.if_icmp .ge 32, 3) := by decide +kernel
theorem d_La_rowsIn_12 : decode m_La_rowsIn.2.1 12 = .ok (.aload_n 0, 1) := by decide +kernel
theorem d_La_rowsIn_13 : decode m_La_rowsIn.2.1 13 = .ok (.getfield 21, 3) := by decide +kernel
theorem d_La_rowsIn_16 : decode m_La_rowsIn.2.1 16 = .ok (.iload_n 3, 1) := by decide +kernel
theorem d_La_rowsIn_17 : decode m_La_rowsIn.2.1 17 = .ok (.iaload, 1) := by decide +kernel
theorem d_La_rowsIn_18 : decode m_La_rowsIn.2.1 18 = .ok (.iload_n 1, 1) := by decide +kernel
theorem d_La_rowsIn_19 : decode m_La_rowsIn.2.1 19 = .ok (.if_icmp .ne 16, 3) := by decide +kernel
theorem d_La_rowsIn_22 : decode m_La_rowsIn.2.1 22 = .ok (.iload_n 2, 1) := by decide +kernel
theorem d_La_rowsIn_23 : decode m_La_rowsIn.2.1 23 = .ok (.aload_n 0, 1) := by decide +kernel
theorem d_La_rowsIn_24 : decode m_La_rowsIn.2.1 24 = .ok (.getfield 24, 3) := by decide +kernel
theorem d_La_rowsIn_27 : decode m_La_rowsIn.2.1 27 = .ok (.iload_n 3, 1) := by decide +kernel
theorem d_La_rowsIn_28 : decode m_La_rowsIn.2.1 28 = .ok (.iaload, 1) := by decide +kernel
theorem d_La_rowsIn_29 : decode m_La_rowsIn.2.1 29 = .ok (.iconst 1, 1) := by decide +kernel
theorem d_La_rowsIn_30 : decode m_La_rowsIn.2.1 30 = .ok (.iadd, 1) := by decide +kernel
theorem d_La_rowsIn_31 : decode m_La_rowsIn.2.1 31 = .ok (.invokestatic 31, 3) := by decide +kernel
theorem d_La_rowsIn_34 : decode m_La_rowsIn.2.1 34 = .ok (.istore_n 2, 1) := by decide +kernel
theorem d_La_rowsIn_35 : decode m_La_rowsIn.2.1 35 = .ok (.iinc 3 1, 3) := by decide +kernel
theorem d_La_rowsIn_38 : decode m_La_rowsIn.2.1 38 = .ok (.goto (-34), 3) := by decide +kernel
theorem d_La_rowsIn_41 : decode m_La_rowsIn.2.1 41 = .ok (.iload_n 2, 1) := by decide +kernel
theorem d_La_rowsIn_42 : decode m_La_rowsIn.2.1 42 = .ok (.ireturn, 1) := by decide +kernel
theorem d_La_rowWidth_0 : decode m_La_rowWidth.2.1 0 = .ok (.iconst 0, 1) := by decide +kernel
theorem d_La_rowWidth_1 : decode m_La_rowWidth.2.1 1 = .ok (.istore_n 3, 1) := by decide +kernel
theorem d_La_rowWidth_2 : decode m_La_rowWidth.2.1 2 = .ok (.iconst 0, 1) := by decide +kernel
theorem d_La_rowWidth_3 : decode m_La_rowWidth.2.1 3 = .ok (.istore 4, 2) := by decide +kernel
theorem d_La_rowWidth_5 : decode m_La_rowWidth.2.1 5 = .ok (.iload 4, 2) := by decide +kernel
theorem d_La_rowWidth_7 : decode m_La_rowWidth.2.1 7 = .ok (.aload_n 0, 1) := by decide +kernel
theorem d_La_rowWidth_8 : decode m_La_rowWidth.2.1 8 = .ok (.getfield 27, 3) := by decide +kernel
theorem d_La_rowWidth_11 : decode m_La_rowWidth.2.1 11 = .ok (.if_icmp .ge 30, 3) := by decide +kernel
theorem d_La_rowWidth_14 : decode m_La_rowWidth.2.1 14 = .ok (.aload_n 0, 1) := by decide +kernel
theorem d_La_rowWidth_15 : decode m_La_rowWidth.2.1 15 = .ok (.iload 4, 2) := by decide +kernel
theorem d_La_rowWidth_17 : decode m_La_rowWidth.2.1 17 = .ok (.iload_n 1, 1) := by decide +kernel
theorem d_La_rowWidth_18 : decode m_La_rowWidth.2.1 18 = .ok (.iload_n 2, 1) := by decide +kernel
theorem d_La_rowWidth_19 : decode m_La_rowWidth.2.1 19 = .ok (.invokevirtual 37, 3) := by decide +kernel
theorem d_La_rowWidth_22 : decode m_La_rowWidth.2.1 22 = .ok (.ifCond .eq 13, 3) := by decide +kernel
theorem d_La_rowWidth_25 : decode m_La_rowWidth.2.1 25 = .ok (.iload_n 3, 1) := by decide +kernel
theorem d_La_rowWidth_26 : decode m_La_rowWidth.2.1 26 = .ok (.aload_n 0, 1) := by decide +kernel
theorem d_La_rowWidth_27 : decode m_La_rowWidth.2.1 27 = .ok (.getfield 15, 3) := by decide +kernel
theorem d_La_rowWidth_30 : decode m_La_rowWidth.2.1 30 = .ok (.iload 4, 2) := by decide +kernel
theorem d_La_rowWidth_32 : decode m_La_rowWidth.2.1 32 = .ok (.iaload, 1) := by decide +kernel
theorem d_La_rowWidth_33 : decode m_La_rowWidth.2.1 33 = .ok (.iadd, 1) := by decide +kernel
theorem d_La_rowWidth_34 : decode m_La_rowWidth.2.1 34 = .ok (.istore_n 3, 1) := by decide +kernel
theorem d_La_rowWidth_35 : decode m_La_rowWidth.2.1 35 = .ok (.iinc 4 1, 3) := by decide +kernel
theorem d_La_rowWidth_38 : decode m_La_rowWidth.2.1 38 = .ok (.goto (-33), 3) := by decide +kernel
theorem d_La_rowWidth_41 : decode m_La_rowWidth.2.1 41 = .ok (.iload_n 3, 1) := by decide +kernel
theorem d_La_rowWidth_42 : decode m_La_rowWidth.2.1 42 = .ok (.ireturn, 1) := by decide +kernel
theorem d_La_isIn_0 : decode m_La_isIn.2.1 0 = .ok (.aload_n 0, 1) := by decide +kernel
theorem d_La_isIn_1 : decode m_La_isIn.2.1 1 = .ok (.getfield 21, 3) := by decide +kernel
theorem d_La_isIn_4 : decode m_La_isIn.2.1 4 = .ok (.iload_n 1, 1) := by decide +kernel
theorem d_La_isIn_5 : decode m_La_isIn.2.1 5 = .ok (.iaload, 1) := by decide +kernel
theorem d_La_isIn_6 : decode m_La_isIn.2.1 6 = .ok (.iload_n 2, 1) := by decide +kernel
theorem d_La_isIn_7 : decode m_La_isIn.2.1 7 = .ok (.if_icmp .ne 17, 3) := by decide +kernel
theorem d_La_isIn_10 : decode m_La_isIn.2.1 10 = .ok (.aload_n 0, 1) := by decide +kernel
theorem d_La_isIn_11 : decode m_La_isIn.2.1 11 = .ok (.getfield 24, 3) := by decide +kernel
theorem d_La_isIn_14 : decode m_La_isIn.2.1 14 = .ok (.iload_n 1, 1) := by decide +kernel
theorem d_La_isIn_15 : decode m_La_isIn.2.1 15 = .ok (.iaload, 1) := by decide +kernel
theorem d_La_isIn_16 : decode m_La_isIn.2.1 16 = .ok (.iload_n 3, 1) := by decide +kernel
theorem d_La_isIn_17 : decode m_La_isIn.2.1 17 = .ok (.if_icmp .ne 7, 3) := by decide +kernel
theorem d_La_isIn_20 : decode m_La_isIn.2.1 20 = .ok (.iconst 1, 1) := by decide +kernel
theorem d_La_isIn_21 : decode m_La_isIn.2.1 21 = .ok (.goto 4, 3) := by decide +kernel
theorem d_La_isIn_24 : decode m_La_isIn.2.1 24 = .ok (.iconst 0, 1) := by decide +kernel
theorem d_La_isIn_25 : decode m_La_isIn.2.1 25 = .ok (.ireturn, 1) := by decide +kernel
theorem d_Tr_add_0 : decode m_Tr_add.2.1 0 = .ok (.aload_n 0, 1) := by decide +kernel
theorem d_Tr_add_1 : decode m_Tr_add.2.1 1 = .ok (.getfield 36, 3) := by decide +kernel
theorem d_Tr_add_4 : decode m_Tr_add.2.1 4 = .ok (.sipush 145, 3) := by decide +kernel
theorem d_Tr_add_7 : decode m_Tr_add.2.1 7 = .ok (.if_icmp .lt 5, 3) := by decide +kernel
theorem d_Tr_add_10 : decode m_Tr_add.2.1 10 = .ok (.iconst (-1), 1) := by decide +kernel
theorem d_Tr_add_11 : decode m_Tr_add.2.1 11 = .ok (.ireturn, 1) := by decide +kernel
theorem d_Tr_add_12 : decode m_Tr_add.2.1 12 = .ok (.aload_n 0, 1) := by decide +kernel
theorem d_Tr_add_13 : decode m_Tr_add.2.1 13 = .ok (.getfield 9, 3) := by decide +kernel
theorem d_Tr_add_16 : decode m_Tr_add.2.1 16 = .ok (.aload_n 0, 1) := by decide +kernel
theorem d_Tr_add_17 : decode m_Tr_add.2.1 17 = .ok (.getfield 36, 3) := by decide +kernel
theorem d_Tr_add_20 : decode m_Tr_add.2.1 20 = .ok (.iload_n 1, 1) := by decide +kernel
theorem d_Tr_add_21 : decode m_Tr_add.2.1 21 = .ok (.iastore, 1) := by decide +kernel
theorem d_Tr_add_22 : decode m_Tr_add.2.1 22 = .ok (.aload_n 0, 1) := by decide +kernel
theorem d_Tr_add_23 : decode m_Tr_add.2.1 23 = .ok (.getfield 15, 3) := by decide +kernel
theorem d_Tr_add_26 : decode m_Tr_add.2.1 26 = .ok (.aload_n 0, 1) := by decide +kernel
theorem d_Tr_add_27 : decode m_Tr_add.2.1 27 = .ok (.getfield 36, 3) := by decide +kernel
theorem d_Tr_add_30 : decode m_Tr_add.2.1 30 = .ok (.iload_n 2, 1) := by decide +kernel
theorem d_Tr_add_31 : decode m_Tr_add.2.1 31 = .ok (.iastore, 1) := by decide +kernel
theorem d_Tr_add_32 : decode m_Tr_add.2.1 32 = .ok (.aload_n 0, 1) := by decide +kernel
theorem d_Tr_add_33 : decode m_Tr_add.2.1 33 = .ok (.getfield 18, 3) := by decide +kernel
theorem d_Tr_add_36 : decode m_Tr_add.2.1 36 = .ok (.aload_n 0, 1) := by decide +kernel
theorem d_Tr_add_37 : decode m_Tr_add.2.1 37 = .ok (.getfield 36, 3) := by decide +kernel
theorem d_Tr_add_40 : decode m_Tr_add.2.1 40 = .ok (.iload_n 3, 1) := by decide +kernel
theorem d_Tr_add_41 : decode m_Tr_add.2.1 41 = .ok (.iastore, 1) := by decide +kernel
theorem d_Tr_add_42 : decode m_Tr_add.2.1 42 = .ok (.aload_n 0, 1) := by decide +kernel
theorem d_Tr_add_43 : decode m_Tr_add.2.1 43 = .ok (.getfield 21, 3) := by decide +kernel
theorem d_Tr_add_46 : decode m_Tr_add.2.1 46 = .ok (.aload_n 0, 1) := by decide +kernel
theorem d_Tr_add_47 : decode m_Tr_add.2.1 47 = .ok (.getfield 36, 3) := by decide +kernel
theorem d_Tr_add_50 : decode m_Tr_add.2.1 50 = .ok (.iload 4, 2) := by decide +kernel
theorem d_Tr_add_52 : decode m_Tr_add.2.1 52 = .ok (.iastore, 1) := by decide +kernel
theorem d_Tr_add_53 : decode m_Tr_add.2.1 53 = .ok (.aload_n 0, 1) := by decide +kernel
theorem d_Tr_add_54 : decode m_Tr_add.2.1 54 = .ok (.getfield 24, 3) := by decide +kernel
theorem d_Tr_add_57 : decode m_Tr_add.2.1 57 = .ok (.aload_n 0, 1) := by decide +kernel
theorem d_Tr_add_58 : decode m_Tr_add.2.1 58 = .ok (.getfield 36, 3) := by decide +kernel
theorem d_Tr_add_61 : decode m_Tr_add.2.1 61 = .ok (.iload 5, 2) := by decide +kernel
theorem d_Tr_add_63 : decode m_Tr_add.2.1 63 = .ok (.iastore, 1) := by decide +kernel
theorem d_Tr_add_64 : decode m_Tr_add.2.1 64 = .ok (.aload_n 0, 1) := by decide +kernel
theorem d_Tr_add_65 : decode m_Tr_add.2.1 65 = .ok (.getfield 27, 3) := by decide +kernel
theorem d_Tr_add_68 : decode m_Tr_add.2.1 68 = .ok (.aload_n 0, 1) := by decide +kernel
theorem d_Tr_add_69 : decode m_Tr_add.2.1 69 = .ok (.getfield 36, 3) := by decide +kernel
theorem d_Tr_add_72 : decode m_Tr_add.2.1 72 = .ok (.iload 6, 2) := by decide +kernel
theorem d_Tr_add_74 : decode m_Tr_add.2.1 74 = .ok (.iastore, 1) := by decide +kernel
theorem d_Tr_add_75 : decode m_Tr_add.2.1 75 = .ok (.aload_n 0, 1) := by decide +kernel
theorem d_Tr_add_76 : decode m_Tr_add.2.1 76 = .ok (.getfield 30, 3) := by decide +kernel
theorem d_Tr_add_79 : decode m_Tr_add.2.1 79 = .ok (.aload_n 0, 1) := by decide +kernel
theorem d_Tr_add_80 : decode m_Tr_add.2.1 80 = .ok (.getfield 36, 3) := by decide +kernel
theorem d_Tr_add_83 : decode m_Tr_add.2.1 83 = .ok (.iconst (-1), 1) := by decide +kernel
theorem d_Tr_add_84 : decode m_Tr_add.2.1 84 = .ok (.iastore, 1) := by decide +kernel
theorem d_Tr_add_85 : decode m_Tr_add.2.1 85 = .ok (.aload_n 0, 1) := by decide +kernel
theorem d_Tr_add_86 : decode m_Tr_add.2.1 86 = .ok (.getfield 33, 3) := by decide +kernel
theorem d_Tr_add_89 : decode m_Tr_add.2.1 89 = .ok (.aload_n 0, 1) := by decide +kernel
theorem d_Tr_add_90 : decode m_Tr_add.2.1 90 = .ok (.getfield 36, 3) := by decide +kernel
theorem d_Tr_add_93 : decode m_Tr_add.2.1 93 = .ok (.iconst 0, 1) := by decide +kernel
theorem d_Tr_add_94 : decode m_Tr_add.2.1 94 = .ok (.iastore, 1) := by decide +kernel
theorem d_Tr_add_95 : decode m_Tr_add.2.1 95 = .ok (.aload_n 0, 1) := by decide +kernel
theorem d_Tr_add_96 : decode m_Tr_add.2.1 96 = .ok (.dup, 1) := by decide +kernel
theorem d_Tr_add_97 : decode m_Tr_add.2.1 97 = .ok (.getfield 36, 3) := by decide +kernel
theorem d_Tr_add_100 : decode m_Tr_add.2.1 100 = .ok (.iconst 1, 1) := by decide +kernel
theorem d_Tr_add_101 : decode m_Tr_add.2.1 101 = .ok (.iadd, 1) := by decide +kernel
theorem d_Tr_add_102 : decode m_Tr_add.2.1 102 = .ok (.putfield 36, 3) := by decide +kernel
theorem d_Tr_add_105 : decode m_Tr_add.2.1 105 = .ok (.aload_n 0, 1) := by decide +kernel
theorem d_Tr_add_106 : decode m_Tr_add.2.1 106 = .ok (.getfield 36, 3) := by decide +kernel
theorem d_Tr_add_109 : decode m_Tr_add.2.1 109 = .ok (.iconst 1, 1) := by decide +kernel
theorem d_Tr_add_110 : decode m_Tr_add.2.1 110 = .ok (.isub, 1) := by decide +kernel
theorem d_Tr_add_111 : decode m_Tr_add.2.1 111 = .ok (.ireturn, 1) := by decide +kernel
theorem d_Tr_growColumn_0 : decode m_Tr_growColumn.2.1 0 = .ok (.iconst 0, 1) := by decide +kernel
theorem d_Tr_growColumn_1 : decode m_Tr_growColumn.2.1 1 = .ok (.istore 6, 2) := by decide +kernel
theorem d_Tr_growColumn_3 : decode m_Tr_growColumn.2.1 3 = .ok (.aload_n 1, 1) := by decide +kernel
theorem d_Tr_growColumn_4 : decode m_Tr_growColumn.2.1 4 = .ok (.iload_n 2, 1) := by decide +kernel
theorem d_Tr_growColumn_5 : decode m_Tr_growColumn.2.1 5 = .ok (.invokevirtual 69, 3) := by decide +kernel
theorem d_Tr_growColumn_8 : decode m_Tr_growColumn.2.1 8 = .ok (.istore 7, 2) := by decide +kernel
theorem d_Tr_growColumn_10 : decode m_Tr_growColumn.2.1 10 = .ok (.iconst 0, 1) := by decide +kernel
theorem d_Tr_growColumn_11 : decode m_Tr_growColumn.2.1 11 = .ok (.istore 8, 2) := by decide +kernel
theorem d_Tr_growColumn_13 : decode m_Tr_growColumn.2.1 13 = .ok (.iload 8, 2) := by decide +kernel
theorem d_Tr_growColumn_15 : decode m_Tr_growColumn.2.1 15 = .ok (.iload 7, 2) := by decide +kernel
theorem d_Tr_growColumn_17 : decode m_Tr_growColumn.2.1 17 = .ok (.if_icmp .ge 79, 3) := by decide +kernel
theorem d_Tr_growColumn_20 : decode m_Tr_growColumn.2.1 20 = .ok (.aload_n 1, 1) := by decide +kernel
theorem d_Tr_growColumn_21 : decode m_Tr_growColumn.2.1 21 = .ok (.iload_n 2, 1) := by decide +kernel
theorem d_Tr_growColumn_22 : decode m_Tr_growColumn.2.1 22 = .ok (.iload 8, 2) := by decide +kernel
theorem d_Tr_growColumn_24 : decode m_Tr_growColumn.2.1 24 = .ok (.invokevirtual 72, 3) := by decide +kernel
theorem d_Tr_growColumn_27 : decode m_Tr_growColumn.2.1 27 = .ok (.istore 9, 2) := by decide +kernel
theorem d_Tr_growColumn_29 : decode m_Tr_growColumn.2.1 29 = .ok (.iload 9, 2) := by decide +kernel
theorem d_Tr_growColumn_31 : decode m_Tr_growColumn.2.1 31 = .ok (.iload 5, 2) := by decide +kernel
theorem d_Tr_growColumn_33 : decode m_Tr_growColumn.2.1 33 = .ok (.iload 6, 2) := by decide +kernel
theorem d_Tr_growColumn_35 : decode m_Tr_growColumn.2.1 35 = .ok (.isub, 1) := by decide +kernel
theorem d_Tr_growColumn_36 : decode m_Tr_growColumn.2.1 36 = .ok (.if_icmp .ge 23, 3) := by decide +kernel
theorem d_Tr_growColumn_39 : decode m_Tr_growColumn.2.1 39 = .ok (.aload_n 0, 1) := by decide +kernel
theorem d_Tr_growColumn_40 : decode m_Tr_growColumn.2.1 40 = .ok (.iconst 1, 1) := by decide +kernel
theorem d_Tr_growColumn_41 : decode m_Tr_growColumn.2.1 41 = .ok (.iload_n 3, 1) := by decide +kernel
theorem d_Tr_growColumn_42 : decode m_Tr_growColumn.2.1 42 = .ok (.iload 6, 2) := by decide +kernel
theorem d_Tr_growColumn_44 : decode m_Tr_growColumn.2.1 44 = .ok (.iload 4, 2) := by decide +kernel
theorem d_Tr_growColumn_46 : decode m_Tr_growColumn.2.1 46 = .ok (.iload 5, 2) := by decide +kernel
theorem d_Tr_growColumn_48 : decode m_Tr_growColumn.2.1 48 = .ok (.iload 6, 2) := by decide +kernel
theorem d_Tr_growColumn_50 : decode m_Tr_growColumn.2.1 50 = .ok (.isub, 1) := by decide +kernel
theorem d_Tr_growColumn_51 : decode m_Tr_growColumn.2.1 51 = .ok (.iload 9, 2) := by decide +kernel
theorem d_Tr_growColumn_53 : decode m_Tr_growColumn.2.1 53 = .ok (.invokevirtual 53, 3) := by decide +kernel
theorem d_Tr_growColumn_56 : decode m_Tr_growColumn.2.1 56 = .ok (.goto 4, 3) := by decide +kernel
theorem d_Tr_growColumn_59 : decode m_Tr_growColumn.2.1 59 = .ok (.iconst (-1), 1) := by decide +kernel
theorem d_Tr_growColumn_60 : decode m_Tr_growColumn.2.1 60 = .ok (.istore 10, 2) := by decide +kernel
theorem d_Tr_growColumn_62 : decode m_Tr_growColumn.2.1 62 = .ok (.aload_n 0, 1) := by decide +kernel
theorem d_Tr_growColumn_63 : decode m_Tr_growColumn.2.1 63 = .ok (.aload_n 1, 1) := by decide +kernel
theorem d_Tr_growColumn_64 : decode m_Tr_growColumn.2.1 64 = .ok (.iload_n 2, 1) := by decide +kernel
theorem d_Tr_growColumn_65 : decode m_Tr_growColumn.2.1 65 = .ok (.iload 8, 2) := by decide +kernel
theorem d_Tr_growColumn_67 : decode m_Tr_growColumn.2.1 67 = .ok (.iload_n 3, 1) := by decide +kernel
theorem d_Tr_growColumn_68 : decode m_Tr_growColumn.2.1 68 = .ok (.iload 6, 2) := by decide +kernel
theorem d_Tr_growColumn_70 : decode m_Tr_growColumn.2.1 70 = .ok (.iload 4, 2) := by decide +kernel
theorem d_Tr_growColumn_72 : decode m_Tr_growColumn.2.1 72 = .ok (.iload 9, 2) := by decide +kernel
theorem d_Tr_growColumn_74 : decode m_Tr_growColumn.2.1 74 = .ok (.invokevirtual 76, 3) := by decide +kernel
theorem d_Tr_growColumn_77 : decode m_Tr_growColumn.2.1 77 = .ok (.aload_n 0, 1) := by decide +kernel
theorem d_Tr_growColumn_78 : decode m_Tr_growColumn.2.1 78 = .ok (.iload 10, 2) := by decide +kernel
theorem d_Tr_growColumn_80 : decode m_Tr_growColumn.2.1 80 = .ok (.invokevirtual 61, 3) := by decide +kernel
theorem d_Tr_growColumn_83 : decode m_Tr_growColumn.2.1 83 = .ok (.iload 6, 2) := by decide +kernel
theorem d_Tr_growColumn_85 : decode m_Tr_growColumn.2.1 85 = .ok (.iload 9, 2) := by decide +kernel
theorem d_Tr_growColumn_87 : decode m_Tr_growColumn.2.1 87 = .ok (.iadd, 1) := by decide +kernel
theorem d_Tr_growColumn_88 : decode m_Tr_growColumn.2.1 88 = .ok (.istore 6, 2) := by decide +kernel
theorem d_Tr_growColumn_90 : decode m_Tr_growColumn.2.1 90 = .ok (.iinc 8 1, 3) := by decide +kernel
theorem d_Tr_growColumn_93 : decode m_Tr_growColumn.2.1 93 = .ok (.goto (-80), 3) := by decide +kernel
theorem d_Tr_growColumn_96 : decode m_Tr_growColumn.2.1 96 = .ok (.aload_n 0, 1) := by decide +kernel
theorem d_Tr_growColumn_97 : decode m_Tr_growColumn.2.1 97 = .ok (.iload_n 3, 1) := by decide +kernel
theorem d_Tr_growColumn_98 : decode m_Tr_growColumn.2.1 98 = .ok (.iload 6, 2) := by decide +kernel
theorem d_Tr_growColumn_100 : decode m_Tr_growColumn.2.1 100 = .ok (.iload 4, 2) := by decide +kernel
theorem d_Tr_growColumn_102 : decode m_Tr_growColumn.2.1 102 = .ok (.iload 5, 2) := by decide +kernel
theorem d_Tr_growColumn_104 : decode m_Tr_growColumn.2.1 104 = .ok (.iload 6, 2) := by decide +kernel
theorem d_Tr_growColumn_106 : decode m_Tr_growColumn.2.1 106 = .ok (.isub, 1) := by decide +kernel
theorem d_Tr_growColumn_107 : decode m_Tr_growColumn.2.1 107 = .ok (.invokevirtual 65, 3) := by decide +kernel
theorem d_Tr_growColumn_110 : decode m_Tr_growColumn.2.1 110 = .ok (.return_, 1) := by decide +kernel
theorem d_La_rowHeight_0 : decode m_La_rowHeight.2.1 0 = .ok (.iconst 0, 1) := by decide +kernel
theorem d_La_rowHeight_1 : decode m_La_rowHeight.2.1 1 = .ok (.istore_n 3, 1) := by decide +kernel
theorem d_La_rowHeight_2 : decode m_La_rowHeight.2.1 2 = .ok (.iconst 0, 1) := by decide +kernel
theorem d_La_rowHeight_3 : decode m_La_rowHeight.2.1 3 = .ok (.istore 4, 2) := by decide +kernel
theorem d_La_rowHeight_5 : decode m_La_rowHeight.2.1 5 = .ok (.iload 4, 2) := by decide +kernel
theorem d_La_rowHeight_7 : decode m_La_rowHeight.2.1 7 = .ok (.aload_n 0, 1) := by decide +kernel
theorem d_La_rowHeight_8 : decode m_La_rowHeight.2.1 8 = .ok (.getfield 27, 3) := by decide +kernel
theorem d_La_rowHeight_11 : decode m_La_rowHeight.2.1 11 = .ok (.if_icmp .ge 32, 3) := by decide +kernel
theorem d_La_rowHeight_14 : decode m_La_rowHeight.2.1 14 = .ok (.aload_n 0, 1) := by decide +kernel
theorem d_La_rowHeight_15 : decode m_La_rowHeight.2.1 15 = .ok (.iload 4, 2) := by decide +kernel
theorem d_La_rowHeight_17 : decode m_La_rowHeight.2.1 17 = .ok (.iload_n 1, 1) := by decide +kernel
theorem d_La_rowHeight_18 : decode m_La_rowHeight.2.1 18 = .ok (.iload_n 2, 1) := by decide +kernel
theorem d_La_rowHeight_19 : decode m_La_rowHeight.2.1 19 = .ok (.invokevirtual 37, 3) := by decide +kernel
theorem d_La_rowHeight_22 : decode m_La_rowHeight.2.1 22 = .ok (.ifCond .eq 15, 3) := by decide +kernel
theorem d_La_rowHeight_25 : decode m_La_rowHeight.2.1 25 = .ok (.iload_n 3, 1) := by decide +kernel
theorem d_La_rowHeight_26 : decode m_La_rowHeight.2.1 26 = .ok (.aload_n 0, 1) := by decide +kernel
theorem d_La_rowHeight_27 : decode m_La_rowHeight.2.1 27 = .ok (.getfield 18, 3) := by decide +kernel
theorem d_La_rowHeight_30 : decode m_La_rowHeight.2.1 30 = .ok (.iload 4, 2) := by decide +kernel
theorem d_La_rowHeight_32 : decode m_La_rowHeight.2.1 32 = .ok (.iaload, 1) := by decide +kernel
theorem d_La_rowHeight_33 : decode m_La_rowHeight.2.1 33 = .ok (.invokestatic 31, 3) := by decide +kernel
theorem d_La_rowHeight_36 : decode m_La_rowHeight.2.1 36 = .ok (.istore_n 3, 1) := by decide +kernel
theorem d_La_rowHeight_37 : decode m_La_rowHeight.2.1 37 = .ok (.iinc 4 1, 3) := by decide +kernel
theorem d_La_rowHeight_40 : decode m_La_rowHeight.2.1 40 = .ok (.goto (-35), 3) := by decide +kernel
theorem d_La_rowHeight_43 : decode m_La_rowHeight.2.1 43 = .ok (.iload_n 3, 1) := by decide +kernel
theorem d_La_rowHeight_44 : decode m_La_rowHeight.2.1 44 = .ok (.ireturn, 1) := by decide +kernel
theorem d_Tr_growRow_0 : decode m_Tr_growRow.2.1 0 = .ok (.iload 4, 2) := by decide +kernel
theorem d_Tr_growRow_2 : decode m_Tr_growRow.2.1 2 = .ok (.istore 8, 2) := by decide +kernel
theorem d_Tr_growRow_4 : decode m_Tr_growRow.2.1 4 = .ok (.iload 4, 2) := by decide +kernel
theorem d_Tr_growRow_6 : decode m_Tr_growRow.2.1 6 = .ok (.iload 6, 2) := by decide +kernel
theorem d_Tr_growRow_8 : decode m_Tr_growRow.2.1 8 = .ok (.iadd, 1) := by decide +kernel
theorem d_Tr_growRow_9 : decode m_Tr_growRow.2.1 9 = .ok (.istore 9, 2) := by decide +kernel
theorem d_Tr_growRow_11 : decode m_Tr_growRow.2.1 11 = .ok (.iconst 0, 1) := by decide +kernel
theorem d_Tr_growRow_12 : decode m_Tr_growRow.2.1 12 = .ok (.istore 10, 2) := by decide +kernel
theorem d_Tr_growRow_14 : decode m_Tr_growRow.2.1 14 = .ok (.iload 10, 2) := by decide +kernel
theorem d_Tr_growRow_16 : decode m_Tr_growRow.2.1 16 = .ok (.aload_n 1, 1) := by decide +kernel
theorem d_Tr_growRow_17 : decode m_Tr_growRow.2.1 17 = .ok (.getfield 80, 3) := by decide +kernel
theorem d_Tr_growRow_20 : decode m_Tr_growRow.2.1 20 = .ok (.if_icmp .ge 89, 3) := by decide +kernel
theorem d_Tr_growRow_23 : decode m_Tr_growRow.2.1 23 = .ok (.aload_n 1, 1) := by decide +kernel
theorem d_Tr_growRow_24 : decode m_Tr_growRow.2.1 24 = .ok (.iload 10, 2) := by decide +kernel
theorem d_Tr_growRow_26 : decode m_Tr_growRow.2.1 26 = .ok (.iload_n 2, 1) := by decide +kernel
theorem d_Tr_growRow_27 : decode m_Tr_growRow.2.1 27 = .ok (.iload_n 3, 1) := by decide +kernel
theorem d_Tr_growRow_28 : decode m_Tr_growRow.2.1 28 = .ok (.invokevirtual 81, 3) := by decide +kernel
theorem d_Tr_growRow_31 : decode m_Tr_growRow.2.1 31 = .ok (.ifCond .eq 72, 3) := by decide +kernel
theorem d_Tr_growRow_34 : decode m_Tr_growRow.2.1 34 = .ok (.aload_n 1, 1) := by decide +kernel
theorem d_Tr_growRow_35 : decode m_Tr_growRow.2.1 35 = .ok (.getfield 85, 3) := by decide +kernel
theorem d_Tr_growRow_38 : decode m_Tr_growRow.2.1 38 = .ok (.iload 10, 2) := by decide +kernel
theorem d_Tr_growRow_40 : decode m_Tr_growRow.2.1 40 = .ok (.iaload, 1) := by decide +kernel
theorem d_Tr_growRow_41 : decode m_Tr_growRow.2.1 41 = .ok (.istore 11, 2) := by decide +kernel
theorem d_Tr_growRow_43 : decode m_Tr_growRow.2.1 43 = .ok (.iload 11, 2) := by decide +kernel
theorem d_Tr_growRow_45 : decode m_Tr_growRow.2.1 45 = .ok (.iload 9, 2) := by decide +kernel
theorem d_Tr_growRow_47 : decode m_Tr_growRow.2.1 47 = .ok (.iload 8, 2) := by decide +kernel
theorem d_Tr_growRow_49 : decode m_Tr_growRow.2.1 49 = .ok (.isub, 1) := by decide +kernel
theorem d_Tr_growRow_50 : decode m_Tr_growRow.2.1 50 = .ok (.if_icmp .ge 24, 3) := by decide +kernel
theorem d_Tr_growRow_53 : decode m_Tr_growRow.2.1 53 = .ok (.aload_n 0, 1) := by decide +kernel
theorem d_Tr_growRow_54 : decode m_Tr_growRow.2.1 54 = .ok (.iconst 0, 1) := by decide +kernel
theorem d_Tr_growRow_55 : decode m_Tr_growRow.2.1 55 = .ok (.iload 8, 2) := by decide +kernel
theorem d_Tr_growRow_57 : decode m_Tr_growRow.2.1 57 = .ok (.iload 5, 2) := by decide +kernel
theorem d_Tr_growRow_59 : decode m_Tr_growRow.2.1 59 = .ok (.iload 9, 2) := by decide +kernel
theorem d_Tr_growRow_61 : decode m_Tr_growRow.2.1 61 = .ok (.iload 8, 2) := by decide +kernel
theorem d_Tr_growRow_63 : decode m_Tr_growRow.2.1 63 = .ok (.isub, 1) := by decide +kernel
theorem d_Tr_growRow_64 : decode m_Tr_growRow.2.1 64 = .ok (.iload 7, 2) := by decide +kernel
theorem d_Tr_growRow_66 : decode m_Tr_growRow.2.1 66 = .ok (.iload 11, 2) := by decide +kernel
theorem d_Tr_growRow_68 : decode m_Tr_growRow.2.1 68 = .ok (.invokevirtual 53, 3) := by decide +kernel
theorem d_Tr_growRow_71 : decode m_Tr_growRow.2.1 71 = .ok (.goto 4, 3) := by decide +kernel
theorem d_Tr_growRow_74 : decode m_Tr_growRow.2.1 74 = .ok (.iconst (-1), 1) := by decide +kernel
theorem d_Tr_growRow_75 : decode m_Tr_growRow.2.1 75 = .ok (.istore 12, 2) := by decide +kernel
theorem d_Tr_growRow_77 : decode m_Tr_growRow.2.1 77 = .ok (.aload_n 0, 1) := by decide +kernel
theorem d_Tr_growRow_78 : decode m_Tr_growRow.2.1 78 = .ok (.aload_n 1, 1) := by decide +kernel
theorem d_Tr_growRow_79 : decode m_Tr_growRow.2.1 79 = .ok (.iload 10, 2) := by decide +kernel
theorem d_Tr_growRow_81 : decode m_Tr_growRow.2.1 81 = .ok (.iload 8, 2) := by decide +kernel
theorem d_Tr_growRow_83 : decode m_Tr_growRow.2.1 83 = .ok (.iload 5, 2) := by decide +kernel
theorem d_Tr_growRow_85 : decode m_Tr_growRow.2.1 85 = .ok (.iload 7, 2) := by decide +kernel
theorem d_Tr_growRow_87 : decode m_Tr_growRow.2.1 87 = .ok (.invokevirtual 86, 3) := by decide +kernel
theorem d_Tr_growRow_90 : decode m_Tr_growRow.2.1 90 = .ok (.aload_n 0, 1) := by decide +kernel
theorem d_Tr_growRow_91 : decode m_Tr_growRow.2.1 91 = .ok (.iload 12, 2) := by decide +kernel
theorem d_Tr_growRow_93 : decode m_Tr_growRow.2.1 93 = .ok (.invokevirtual 61, 3) := by decide +kernel
theorem d_Tr_growRow_96 : decode m_Tr_growRow.2.1 96 = .ok (.iload 8, 2) := by decide +kernel
theorem d_Tr_growRow_98 : decode m_Tr_growRow.2.1 98 = .ok (.iload 11, 2) := by decide +kernel
theorem d_Tr_growRow_100 : decode m_Tr_growRow.2.1 100 = .ok (.iadd, 1) := by decide +kernel
theorem d_Tr_growRow_101 : decode m_Tr_growRow.2.1 101 = .ok (.istore 8, 2) := by decide +kernel
theorem d_Tr_growRow_103 : decode m_Tr_growRow.2.1 103 = .ok (.iinc 10 1, 3) := by decide +kernel
theorem d_Tr_growRow_106 : decode m_Tr_growRow.2.1 106 = .ok (.goto (-92), 3) := by decide +kernel
theorem d_Tr_growRow_109 : decode m_Tr_growRow.2.1 109 = .ok (.aload_n 0, 1) := by decide +kernel
theorem d_Tr_growRow_110 : decode m_Tr_growRow.2.1 110 = .ok (.iload 8, 2) := by decide +kernel
theorem d_Tr_growRow_112 : decode m_Tr_growRow.2.1 112 = .ok (.iload 5, 2) := by decide +kernel
theorem d_Tr_growRow_114 : decode m_Tr_growRow.2.1 114 = .ok (.iload 9, 2) := by decide +kernel
theorem d_Tr_growRow_116 : decode m_Tr_growRow.2.1 116 = .ok (.iload 8, 2) := by decide +kernel
theorem d_Tr_growRow_118 : decode m_Tr_growRow.2.1 118 = .ok (.isub, 1) := by decide +kernel
theorem d_Tr_growRow_119 : decode m_Tr_growRow.2.1 119 = .ok (.iload 7, 2) := by decide +kernel
theorem d_Tr_growRow_121 : decode m_Tr_growRow.2.1 121 = .ok (.invokevirtual 65, 3) := by decide +kernel
theorem d_Tr_growRow_124 : decode m_Tr_growRow.2.1 124 = .ok (.return_, 1) := by decide +kernel
theorem d_Tr_growCell_0 : decode m_Tr_growCell.2.1 0 = .ok (.aload_n 1, 1) := by decide +kernel
theorem d_Tr_growCell_1 : decode m_Tr_growCell.2.1 1 = .ok (.getfield 85, 3) := by decide +kernel
theorem d_Tr_growCell_4 : decode m_Tr_growCell.2.1 4 = .ok (.iload_n 2, 1) := by decide +kernel
theorem d_Tr_growCell_5 : decode m_Tr_growCell.2.1 5 = .ok (.iaload, 1) := by decide +kernel
theorem d_Tr_growCell_6 : decode m_Tr_growCell.2.1 6 = .ok (.istore 6, 2) := by decide +kernel
theorem d_Tr_growCell_8 : decode m_Tr_growCell.2.1 8 = .ok (.aload_n 1, 1) := by decide +kernel
theorem d_Tr_growCell_9 : decode m_Tr_growCell.2.1 9 = .ok (.getfield 89, 3) := by decide +kernel
theorem d_Tr_growCell_12 : decode m_Tr_growCell.2.1 12 = .ok (.iload_n 2, 1) := by decide +kernel
theorem d_Tr_growCell_13 : decode m_Tr_growCell.2.1 13 = .ok (.iaload, 1) := by decide +kernel
theorem d_Tr_growCell_14 : decode m_Tr_growCell.2.1 14 = .ok (.istore 7, 2) := by decide +kernel
theorem d_Tr_growCell_16 : decode m_Tr_growCell.2.1 16 = .ok (.iload 7, 2) := by decide +kernel
theorem d_Tr_growCell_18 : decode m_Tr_growCell.2.1 18 = .ok (.iload 5, 2) := by decide +kernel
theorem d_Tr_growCell_20 : decode m_Tr_growCell.2.1 20 = .ok (.if_icmp .ge 20, 3) := by decide +kernel
theorem d_Tr_growCell_23 : decode m_Tr_growCell.2.1 23 = .ok (.aload_n 0, 1) := by decide +kernel
theorem d_Tr_growCell_24 : decode m_Tr_growCell.2.1 24 = .ok (.iconst 1, 1) := by decide +kernel
theorem d_Tr_growCell_25 : decode m_Tr_growCell.2.1 25 = .ok (.iload_n 3, 1) := by decide +kernel
theorem d_Tr_growCell_26 : decode m_Tr_growCell.2.1 26 = .ok (.iload 4, 2) := by decide +kernel
theorem d_Tr_growCell_28 : decode m_Tr_growCell.2.1 28 = .ok (.iload 6, 2) := by decide +kernel
theorem d_Tr_growCell_30 : decode m_Tr_growCell.2.1 30 = .ok (.iload 5, 2) := by decide +kernel
theorem d_Tr_growCell_32 : decode m_Tr_growCell.2.1 32 = .ok (.iload 7, 2) := by decide +kernel
theorem d_Tr_growCell_34 : decode m_Tr_growCell.2.1 34 = .ok (.invokevirtual 53, 3) := by decide +kernel
theorem d_Tr_growCell_37 : decode m_Tr_growCell.2.1 37 = .ok (.goto 4, 3) := by decide +kernel
theorem d_Tr_growCell_40 : decode m_Tr_growCell.2.1 40 = .ok (.iconst (-1), 1) := by decide +kernel
theorem d_Tr_growCell_41 : decode m_Tr_growCell.2.1 41 = .ok (.istore 8, 2) := by decide +kernel
theorem d_Tr_growCell_43 : decode m_Tr_growCell.2.1 43 = .ok (.aload_n 0, 1) := by decide +kernel
theorem d_Tr_growCell_44 : decode m_Tr_growCell.2.1 44 = .ok (.iconst 2, 1) := by decide +kernel
theorem d_Tr_growCell_45 : decode m_Tr_growCell.2.1 45 = .ok (.iload_n 3, 1) := by decide +kernel
theorem d_Tr_growCell_46 : decode m_Tr_growCell.2.1 46 = .ok (.iload 4, 2) := by decide +kernel
theorem d_Tr_growCell_48 : decode m_Tr_growCell.2.1 48 = .ok (.iload 6, 2) := by decide +kernel
theorem d_Tr_growCell_50 : decode m_Tr_growCell.2.1 50 = .ok (.iload 7, 2) := by decide +kernel
theorem d_Tr_growCell_52 : decode m_Tr_growCell.2.1 52 = .ok (.aload_n 1, 1) := by decide +kernel
theorem d_Tr_growCell_53 : decode m_Tr_growCell.2.1 53 = .ok (.getfield 90, 3) := by decide +kernel
theorem d_Tr_growCell_56 : decode m_Tr_growCell.2.1 56 = .ok (.iload_n 2, 1) := by decide +kernel
theorem d_Tr_growCell_57 : decode m_Tr_growCell.2.1 57 = .ok (.iaload, 1) := by decide +kernel
theorem d_Tr_growCell_58 : decode m_Tr_growCell.2.1 58 = .ok (.invokevirtual 53, 3) := by decide +kernel
theorem d_Tr_growCell_61 : decode m_Tr_growCell.2.1 61 = .ok (.pop, 1) := by decide +kernel
theorem d_Tr_growCell_62 : decode m_Tr_growCell.2.1 62 = .ok (.aload_n 0, 1) := by decide +kernel
theorem d_Tr_growCell_63 : decode m_Tr_growCell.2.1 63 = .ok (.iload 8, 2) := by decide +kernel
theorem d_Tr_growCell_65 : decode m_Tr_growCell.2.1 65 = .ok (.invokevirtual 61, 3) := by decide +kernel
theorem d_Tr_growCell_68 : decode m_Tr_growCell.2.1 68 = .ok (.aload_n 0, 1) := by decide +kernel
theorem d_Tr_growCell_69 : decode m_Tr_growCell.2.1 69 = .ok (.iload_n 3, 1) := by decide +kernel
theorem d_Tr_growCell_70 : decode m_Tr_growCell.2.1 70 = .ok (.iload 4, 2) := by decide +kernel
theorem d_Tr_growCell_72 : decode m_Tr_growCell.2.1 72 = .ok (.iload 7, 2) := by decide +kernel
theorem d_Tr_growCell_74 : decode m_Tr_growCell.2.1 74 = .ok (.iadd, 1) := by decide +kernel
theorem d_Tr_growCell_75 : decode m_Tr_growCell.2.1 75 = .ok (.iload 6, 2) := by decide +kernel
theorem d_Tr_growCell_77 : decode m_Tr_growCell.2.1 77 = .ok (.iload 5, 2) := by decide +kernel
theorem d_Tr_growCell_79 : decode m_Tr_growCell.2.1 79 = .ok (.iload 7, 2) := by decide +kernel
theorem d_Tr_growCell_81 : decode m_Tr_growCell.2.1 81 = .ok (.isub, 1) := by decide +kernel
theorem d_Tr_growCell_82 : decode m_Tr_growCell.2.1 82 = .ok (.invokevirtual 65, 3) := by decide +kernel
theorem d_Tr_growCell_85 : decode m_Tr_growCell.2.1 85 = .ok (.return_, 1) := by decide +kernel
theorem d_Tr_beginSecond_0 : decode m_Tr_beginSecond.2.1 0 = .ok (.iload_n 1, 1) := by decide +kernel
theorem d_Tr_beginSecond_1 : decode m_Tr_beginSecond.2.1 1 = .ok (.iconst (-1), 1) := by decide +kernel
theorem d_Tr_beginSecond_2 : decode m_Tr_beginSecond.2.1 2 = .ok (.if_icmp .eq 13, 3) := by decide +kernel
theorem d_Tr_beginSecond_5 : decode m_Tr_beginSecond.2.1 5 = .ok (.aload_n 0, 1) := by decide +kernel
theorem d_Tr_beginSecond_6 : decode m_Tr_beginSecond.2.1 6 = .ok (.getfield 30, 3) := by decide +kernel
theorem d_Tr_beginSecond_9 : decode m_Tr_beginSecond.2.1 9 = .ok (.iload_n 1, 1) := by decide +kernel
theorem d_Tr_beginSecond_10 : decode m_Tr_beginSecond.2.1 10 = .ok (.aload_n 0, 1) := by decide +kernel
theorem d_Tr_beginSecond_11 : decode m_Tr_beginSecond.2.1 11 = .ok (.getfield 36, 3) := by decide +kernel
theorem d_Tr_beginSecond_14 : decode m_Tr_beginSecond.2.1 14 = .ok (.iastore, 1) := by decide +kernel
theorem d_Tr_beginSecond_15 : decode m_Tr_beginSecond.2.1 15 = .ok (.return_, 1) := by decide +kernel
theorem d_Tr_addRest_0 : decode m_Tr_addRest.2.1 0 = .ok (.iload_n 3, 1) := by decide +kernel
theorem d_Tr_addRest_1 : decode m_Tr_addRest.2.1 1 = .ok (.ifCond .le 20, 3) := by decide +kernel
theorem d_Tr_addRest_4 : decode m_Tr_addRest.2.1 4 = .ok (.iload 4, 2) := by decide +kernel
theorem d_Tr_addRest_6 : decode m_Tr_addRest.2.1 6 = .ok (.ifCond .le 15, 3) := by decide +kernel
theorem d_Tr_addRest_9 : decode m_Tr_addRest.2.1 9 = .ok (.aload_n 0, 1) := by decide +kernel
theorem d_Tr_addRest_10 : decode m_Tr_addRest.2.1 10 = .ok (.iconst 3, 1) := by decide +kernel
theorem d_Tr_addRest_11 : decode m_Tr_addRest.2.1 11 = .ok (.iload_n 1, 1) := by decide +kernel
theorem d_Tr_addRest_12 : decode m_Tr_addRest.2.1 12 = .ok (.iload_n 2, 1) := by decide +kernel
theorem d_Tr_addRest_13 : decode m_Tr_addRest.2.1 13 = .ok (.iload_n 3, 1) := by decide +kernel
theorem d_Tr_addRest_14 : decode m_Tr_addRest.2.1 14 = .ok (.iload 4, 2) := by decide +kernel
theorem d_Tr_addRest_16 : decode m_Tr_addRest.2.1 16 = .ok (.iconst (-1), 1) := by decide +kernel
theorem d_Tr_addRest_17 : decode m_Tr_addRest.2.1 17 = .ok (.invokevirtual 53, 3) := by decide +kernel
theorem d_Tr_addRest_20 : decode m_Tr_addRest.2.1 20 = .ok (.pop, 1) := by decide +kernel
theorem d_Tr_addRest_21 : decode m_Tr_addRest.2.1 21 = .ok (.return_, 1) := by decide +kernel
theorem d_Bk_takeUp_0 : decode m_Bk_takeUp.2.1 0 = .ok (.aload_n 0, 1) := by decide +kernel
theorem d_Bk_takeUp_1 : decode m_Bk_takeUp.2.1 1 = .ok (.iload_n 1, 1) := by decide +kernel
theorem d_Bk_takeUp_2 : decode m_Bk_takeUp.2.1 2 = .ok (.invokevirtual 29, 3) := by decide +kernel
theorem d_Bk_takeUp_5 : decode m_Bk_takeUp.2.1 5 = .ok (.astore_n 2, 1) := by decide +kernel
theorem d_Bk_takeUp_6 : decode m_Bk_takeUp.2.1 6 = .ok (.aload_n 2, 1) := by decide +kernel
theorem d_Bk_takeUp_7 : decode m_Bk_takeUp.2.1 7 = .ok (.ifnull 23, 3) := by decide +kernel
theorem d_Bk_takeUp_10 : decode m_Bk_takeUp.2.1 10 = .ok (.aload_n 2, 1) := by decide +kernel
theorem d_Bk_takeUp_11 : decode m_Bk_takeUp.2.1 11 = .ok (.dup, 1) := by decide +kernel
theorem d_Bk_takeUp_12 : decode m_Bk_takeUp.2.1 12 = .ok (.getfield 33, 3) := by decide +kernel
theorem d_Bk_takeUp_15 : decode m_Bk_takeUp.2.1 15 = .ok (.iconst 1, 1) := by decide +kernel
theorem d_Bk_takeUp_16 : decode m_Bk_takeUp.2.1 16 = .ok (.isub, 1) := by decide +kernel
theorem d_Bk_takeUp_17 : decode m_Bk_takeUp.2.1 17 = .ok (.putfield 33, 3) := by decide +kernel
theorem d_Bk_takeUp_20 : decode m_Bk_takeUp.2.1 20 = .ok (.aload_n 2, 1) := by decide +kernel
theorem d_Bk_takeUp_21 : decode m_Bk_takeUp.2.1 21 = .ok (.dup, 1) := by decide +kernel
theorem d_Bk_takeUp_22 : decode m_Bk_takeUp.2.1 22 = .ok (.getfield 36, 3) := by decide +kernel
theorem d_Bk_takeUp_25 : decode m_Bk_takeUp.2.1 25 = .ok (.iconst 1, 1) := by decide +kernel
theorem d_Bk_takeUp_26 : decode m_Bk_takeUp.2.1 26 = .ok (.iadd, 1) := by decide +kernel
theorem d_Bk_takeUp_27 : decode m_Bk_takeUp.2.1 27 = .ok (.putfield 36, 3) := by decide +kernel
theorem d_Bk_takeUp_30 : decode m_Bk_takeUp.2.1 30 = .ok (.return_, 1) := by decide +kernel
theorem d_Lw_exact_0 : decode m_Lw_exact.2.1 0 = .ok (.aload 5, 2) := by decide +kernel
theorem d_Lw_exact_2 : decode m_Lw_exact.2.1 2 = .ok (.iconst 0, 1) := by decide +kernel
theorem d_Lw_exact_3 : decode m_Lw_exact.2.1 3 = .ok (.aload_n 0, 1) := by decide +kernel
theorem d_Lw_exact_4 : decode m_Lw_exact.2.1 4 = .ok (.iload_n 1, 1) := by decide +kernel
theorem d_Lw_exact_5 : decode m_Lw_exact.2.1 5 = .ok (.iload_n 2, 1) := by decide +kernel
theorem d_Lw_exact_6 : decode m_Lw_exact.2.1 6 = .ok (.iload_n 3, 1) := by decide +kernel
theorem d_Lw_exact_7 : decode m_Lw_exact.2.1 7 = .ok (.iload 4, 2) := by decide +kernel
theorem d_Lw_exact_9 : decode m_Lw_exact.2.1 9 = .ok (.invokevirtual 31, 3) := by decide +kernel
theorem d_Lw_exact_12 : decode m_Lw_exact.2.1 12 = .ok (.i2l, 1) := by decide +kernel
theorem d_Lw_exact_13 : decode m_Lw_exact.2.1 13 = .ok (.lastore, 1) := by decide +kernel
theorem d_Lw_exact_14 : decode m_Lw_exact.2.1 14 = .ok (.goto 11, 3) := by decide +kernel
theorem d_Lw_exact_17 : decode m_Lw_exact.2.1 17 = .ok (.astore 6, 2) := by decide +kernel
theorem d_Lw_exact_19 : decode m_Lw_exact.2.1 19 = .ok (.iconst 1, 1) := by decide +kernel
theorem d_Lw_exact_20 : decode m_Lw_exact.2.1 20 = .ok (.ireturn, 1) := by decide +kernel
theorem d_Lw_exact_21 : decode m_Lw_exact.2.1 21 = .ok (.astore 6, 2) := by decide +kernel
theorem d_Lw_exact_23 : decode m_Lw_exact.2.1 23 = .ok (.iconst 2, 1) := by decide +kernel
theorem d_Lw_exact_24 : decode m_Lw_exact.2.1 24 = .ok (.ireturn, 1) := by decide +kernel
theorem d_Lw_exact_25 : decode m_Lw_exact.2.1 25 = .ok (.iconst 0, 1) := by decide +kernel
end
section
theorem d_Lw_exact_26 : decode m_Lw_exact.2.1 26 = .ok (.ireturn, 1) := by decide +kernel
theorem d_Ha_exact_0 : decode m_Ha_exact.2.1 0 = .ok (.aload_n 0, 1) := by decide +kernel
theorem d_Ha_exact_1 : decode m_Ha_exact.2.1 1 = .ok (.iload_n 1, 1) := by decide +kernel
theorem d_Ha_exact_2 : decode m_Ha_exact.2.1 2 = .ok (.invokevirtual 89, 3) := by decide +kernel
theorem d_Ha_exact_5 : decode m_Ha_exact.2.1 5 = .ok (.astore 5, 2) := by decide +kernel
theorem d_Ha_exact_7 : decode m_Ha_exact.2.1 7 = .ok (.aload_n 0, 1) := by decide +kernel
theorem d_Ha_exact_8 : decode m_Ha_exact.2.1 8 = .ok (.getfield 48, 3) := by decide +kernel
theorem d_Ha_exact_11 : decode m_Ha_exact.2.1 11 = .ok (.iload_n 2, 1) := by decide +kernel
theorem d_Ha_exact_12 : decode m_Ha_exact.2.1 12 = .ok (.iload_n 3, 1) := by decide +kernel
theorem d_Ha_exact_13 : decode m_Ha_exact.2.1 13 = .ok (.iload 4, 2) := by decide +kernel
theorem d_Ha_exact_15 : decode m_Ha_exact.2.1 15 = .ok (.invokevirtual 140, 3) := by decide +kernel
theorem d_Ha_exact_18 : decode m_Ha_exact.2.1 18 = .ok (.aload_n 0, 1) := by decide +kernel
theorem d_Ha_exact_19 : decode m_Ha_exact.2.1 19 = .ok (.getfield 48, 3) := by decide +kernel
theorem d_Ha_exact_22 : decode m_Ha_exact.2.1 22 = .ok (.invokevirtual 144, 3) := by decide +kernel
theorem d_Ha_exact_25 : decode m_Ha_exact.2.1 25 = .ok (.ifCond .ne 11, 3) := by decide +kernel
theorem d_Ha_exact_28 : decode m_Ha_exact.2.1 28 = .ok (.new 147, 3) := by decide +kernel
theorem d_Ha_exact_31 : decode m_Ha_exact.2.1 31 = .ok (.dup, 1) := by decide +kernel
theorem d_Ha_exact_32 : decode m_Ha_exact.2.1 32 = .ok (.invokespecial 149, 3) := by decide +kernel
theorem d_Ha_exact_35 : decode m_Ha_exact.2.1 35 = .ok (.athrow, 1) := by decide +kernel
theorem d_Ha_exact_36 : decode m_Ha_exact.2.1 36 = .ok (.aload 5, 2) := by decide +kernel
theorem d_Ha_exact_38 : decode m_Ha_exact.2.1 38 = .ok (.getfield 104, 3) := by decide +kernel
theorem d_Ha_exact_41 : decode m_Ha_exact.2.1 41 = .ok (.invokevirtual 108, 3) := by decide +kernel
theorem d_Ha_exact_44 : decode m_Ha_exact.2.1 44 = .ok (.ifCond .ne 24, 3) := by decide +kernel
theorem d_Ha_exact_47 : decode m_Ha_exact.2.1 47 = .ok (.aload 5, 2) := by decide +kernel
theorem d_Ha_exact_49 : decode m_Ha_exact.2.1 49 = .ok (.getfield 67, 3) := by decide +kernel
theorem d_Ha_exact_52 : decode m_Ha_exact.2.1 52 = .ok (.getfield 114, 3) := by decide +kernel
theorem d_Ha_exact_55 : decode m_Ha_exact.2.1 55 = .ok (.ifCond .gt 13, 3) := by decide +kernel
theorem d_Ha_exact_58 : decode m_Ha_exact.2.1 58 = .ok (.aload_n 0, 1) := by decide +kernel
theorem d_Ha_exact_59 : decode m_Ha_exact.2.1 59 = .ok (.getfield 48, 3) := by decide +kernel
theorem d_Ha_exact_62 : decode m_Ha_exact.2.1 62 = .ok (.invokevirtual 150, 3) := by decide +kernel
theorem d_Ha_exact_65 : decode m_Ha_exact.2.1 65 = .ok (.ifCond .ne 11, 3) := by decide +kernel
theorem d_Ha_exact_68 : decode m_Ha_exact.2.1 68 = .ok (.new 64, 3) := by decide +kernel
theorem d_Ha_exact_71 : decode m_Ha_exact.2.1 71 = .ok (.dup, 1) := by decide +kernel
theorem d_Ha_exact_72 : decode m_Ha_exact.2.1 72 = .ok (.invokespecial 66, 3) := by decide +kernel
theorem d_Ha_exact_75 : decode m_Ha_exact.2.1 75 = .ok (.athrow, 1) := by decide +kernel
theorem d_Ha_exact_76 : decode m_Ha_exact.2.1 76 = .ok (.aload_n 0, 1) := by decide +kernel
theorem d_Ha_exact_77 : decode m_Ha_exact.2.1 77 = .ok (.getfield 48, 3) := by decide +kernel
theorem d_Ha_exact_80 : decode m_Ha_exact.2.1 80 = .ok (.aload 5, 2) := by decide +kernel
theorem d_Ha_exact_82 : decode m_Ha_exact.2.1 82 = .ok (.getfield 67, 3) := by decide +kernel
theorem d_Ha_exact_85 : decode m_Ha_exact.2.1 85 = .ok (.invokevirtual 153, 3) := by decide +kernel
theorem d_Ha_exact_88 : decode m_Ha_exact.2.1 88 = .ok (.aload_n 0, 1) := by decide +kernel
theorem d_Ha_exact_89 : decode m_Ha_exact.2.1 89 = .ok (.aload 5, 2) := by decide +kernel
theorem d_Ha_exact_91 : decode m_Ha_exact.2.1 91 = .ok (.invokevirtual 137, 3) := by decide +kernel
theorem d_Ha_exact_94 : decode m_Ha_exact.2.1 94 = .ok (.ireturn, 1) := by decide +kernel
theorem d_Ti_callNames_0 : decode m_Ti_callNames.2.1 0 = .ok (.aload_n 0, 1) := by decide +kernel
theorem d_Ti_callNames_1 : decode m_Ti_callNames.2.1 1 = .ok (.getfield 9, 3) := by decide +kernel
theorem d_Ti_callNames_4 : decode m_Ti_callNames.2.1 4 = .ok (.iconst 0, 1) := by decide +kernel
theorem d_Ti_callNames_5 : decode m_Ti_callNames.2.1 5 = .ok (.iload_n 1, 1) := by decide +kernel
theorem d_Ti_callNames_6 : decode m_Ti_callNames.2.1 6 = .ok (.iastore, 1) := by decide +kernel
theorem d_Ti_callNames_7 : decode m_Ti_callNames.2.1 7 = .ok (.aload_n 0, 1) := by decide +kernel
theorem d_Ti_callNames_8 : decode m_Ti_callNames.2.1 8 = .ok (.iconst 1, 1) := by decide +kernel
theorem d_Ti_callNames_9 : decode m_Ti_callNames.2.1 9 = .ok (.putfield 23, 3) := by decide +kernel
theorem d_Ti_callNames_12 : decode m_Ti_callNames.2.1 12 = .ok (.aload_n 0, 1) := by decide +kernel
theorem d_Ti_callNames_13 : decode m_Ti_callNames.2.1 13 = .ok (.iload_n 2, 1) := by decide +kernel
theorem d_Ti_callNames_14 : decode m_Ti_callNames.2.1 14 = .ok (.invokevirtual 27, 3) := by decide +kernel
theorem d_Ti_callNames_17 : decode m_Ti_callNames.2.1 17 = .ok (.aload_n 0, 1) := by decide +kernel
theorem d_Ti_callNames_18 : decode m_Ti_callNames.2.1 18 = .ok (.iload_n 3, 1) := by decide +kernel
theorem d_Ti_callNames_19 : decode m_Ti_callNames.2.1 19 = .ok (.invokevirtual 27, 3) := by decide +kernel
theorem d_Ti_callNames_22 : decode m_Ti_callNames.2.1 22 = .ok (.return_, 1) := by decide +kernel
theorem d_Ti_addName_0 : decode m_Ti_addName.2.1 0 = .ok (.iload_n 1, 1) := by decide +kernel
theorem d_Ti_addName_1 : decode m_Ti_addName.2.1 1 = .ok (.iconst (-1), 1) := by decide +kernel
theorem d_Ti_addName_2 : decode m_Ti_addName.2.1 2 = .ok (.if_icmp .eq 31, 3) := by decide +kernel
theorem d_Ti_addName_5 : decode m_Ti_addName.2.1 5 = .ok (.aload_n 0, 1) := by decide +kernel
theorem d_Ti_addName_6 : decode m_Ti_addName.2.1 6 = .ok (.getfield 23, 3) := by decide +kernel
theorem d_Ti_addName_9 : decode m_Ti_addName.2.1 9 = .ok (.iconst 3, 1) := by decide +kernel
theorem d_Ti_addName_10 : decode m_Ti_addName.2.1 10 = .ok (.if_icmp .ge 23, 3) := by decide +kernel
theorem d_Ti_addName_13 : decode m_Ti_addName.2.1 13 = .ok (.aload_n 0, 1) := by decide +kernel
theorem d_Ti_addName_14 : decode m_Ti_addName.2.1 14 = .ok (.getfield 9, 3) := by decide +kernel
theorem d_Ti_addName_17 : decode m_Ti_addName.2.1 17 = .ok (.aload_n 0, 1) := by decide +kernel
theorem d_Ti_addName_18 : decode m_Ti_addName.2.1 18 = .ok (.getfield 23, 3) := by decide +kernel
theorem d_Ti_addName_21 : decode m_Ti_addName.2.1 21 = .ok (.iload_n 1, 1) := by decide +kernel
theorem d_Ti_addName_22 : decode m_Ti_addName.2.1 22 = .ok (.iastore, 1) := by decide +kernel
theorem d_Ti_addName_23 : decode m_Ti_addName.2.1 23 = .ok (.aload_n 0, 1) := by decide +kernel
theorem d_Ti_addName_24 : decode m_Ti_addName.2.1 24 = .ok (.dup, 1) := by decide +kernel
theorem d_Ti_addName_25 : decode m_Ti_addName.2.1 25 = .ok (.getfield 23, 3) := by decide +kernel
theorem d_Ti_addName_28 : decode m_Ti_addName.2.1 28 = .ok (.iconst 1, 1) := by decide +kernel
theorem d_Ti_addName_29 : decode m_Ti_addName.2.1 29 = .ok (.iadd, 1) := by decide +kernel
theorem d_Ti_addName_30 : decode m_Ti_addName.2.1 30 = .ok (.putfield 23, 3) := by decide +kernel
theorem d_Ti_addName_33 : decode m_Ti_addName.2.1 33 = .ok (.return_, 1) := by decide +kernel
theorem d_Ti_namesAreThere_0 : decode m_Ti_namesAreThere.2.1 0 = .ok (.iconst 0, 1) := by decide +kernel
theorem d_Ti_namesAreThere_1 : decode m_Ti_namesAreThere.2.1 1 = .ok (.istore_n 1, 1) := by decide +kernel
theorem d_Ti_namesAreThere_2 : decode m_Ti_namesAreThere.2.1 2 = .ok (.iload_n 1, 1) := by decide +kernel
theorem d_Ti_namesAreThere_3 : decode m_Ti_namesAreThere.2.1 3 = .ok (.aload_n 0, 1) := by decide +kernel
theorem d_Ti_namesAreThere_4 : decode m_Ti_namesAreThere.2.1 4 = .ok (.getfield 23, 3) := by decide +kernel
theorem d_Ti_namesAreThere_7 : decode m_Ti_namesAreThere.2.1 7 = .ok (.if_icmp .ge 27, 3) := by decide +kernel
theorem d_Ti_namesAreThere_10 : decode m_Ti_namesAreThere.2.1 10 = .ok (.aload_n 0, 1) := by decide +kernel
theorem d_Ti_namesAreThere_11 : decode m_Ti_namesAreThere.2.1 11 = .ok (.getfield 15, 3) := by decide +kernel
theorem d_Ti_namesAreThere_14 : decode m_Ti_namesAreThere.2.1 14 = .ok (.aload_n 0, 1) := by decide +kernel
theorem d_Ti_namesAreThere_15 : decode m_Ti_namesAreThere.2.1 15 = .ok (.getfield 9, 3) := by decide +kernel
theorem d_Ti_namesAreThere_18 : decode m_Ti_namesAreThere.2.1 18 = .ok (.iload_n 1, 1) := by decide +kernel
theorem d_Ti_namesAreThere_19 : decode m_Ti_namesAreThere.2.1 19 = .ok (.iaload, 1) := by decide +kernel
theorem d_Ti_namesAreThere_20 : decode m_Ti_namesAreThere.2.1 20 = .ok (.invokevirtual 31, 3) := by decide +kernel
theorem d_Ti_namesAreThere_23 : decode m_Ti_namesAreThere.2.1 23 = .ok (.ifnonnull 5, 3) := by decide +kernel
theorem d_Ti_namesAreThere_26 : decode m_Ti_namesAreThere.2.1 26 = .ok (.iconst 0, 1) := by decide +kernel
theorem d_Ti_namesAreThere_27 : decode m_Ti_namesAreThere.2.1 27 = .ok (.ireturn, 1) := by decide +kernel
theorem d_Ti_namesAreThere_28 : decode m_Ti_namesAreThere.2.1 28 = .ok (.iinc 1 1, 3) := by decide +kernel
theorem d_Ti_namesAreThere_31 : decode m_Ti_namesAreThere.2.1 31 = .ok (.goto (-29), 3) := by decide +kernel
theorem d_Ti_namesAreThere_34 : decode m_Ti_namesAreThere.2.1 34 = .ok (.iconst 1, 1) := by decide +kernel
theorem d_Ti_namesAreThere_35 : decode m_Ti_namesAreThere.2.1 35 = .ok (.ireturn, 1) := by decide +kernel
theorem d_Ti_namesAreOpen_0 : decode m_Ti_namesAreOpen.2.1 0 = .ok (.iconst 0, 1) := by decide +kernel
theorem d_Ti_namesAreOpen_1 : decode m_Ti_namesAreOpen.2.1 1 = .ok (.istore_n 1, 1) := by decide +kernel
theorem d_Ti_namesAreOpen_2 : decode m_Ti_namesAreOpen.2.1 2 = .ok (.iload_n 1, 1) := by decide +kernel
theorem d_Ti_namesAreOpen_3 : decode m_Ti_namesAreOpen.2.1 3 = .ok (.aload_n 0, 1) := by decide +kernel
theorem d_Ti_namesAreOpen_4 : decode m_Ti_namesAreOpen.2.1 4 = .ok (.getfield 23, 3) := by decide +kernel
theorem d_Ti_namesAreOpen_7 : decode m_Ti_namesAreOpen.2.1 7 = .ok (.if_icmp .ge 46, 3) := by decide +kernel
theorem d_Ti_namesAreOpen_10 : decode m_Ti_namesAreOpen.2.1 10 = .ok (.aload_n 0, 1) := by decide +kernel
theorem d_Ti_namesAreOpen_11 : decode m_Ti_namesAreOpen.2.1 11 = .ok (.getfield 15, 3) := by decide +kernel
theorem d_Ti_namesAreOpen_14 : decode m_Ti_namesAreOpen.2.1 14 = .ok (.aload_n 0, 1) := by decide +kernel
theorem d_Ti_namesAreOpen_15 : decode m_Ti_namesAreOpen.2.1 15 = .ok (.getfield 9, 3) := by decide +kernel
theorem d_Ti_namesAreOpen_18 : decode m_Ti_namesAreOpen.2.1 18 = .ok (.iload_n 1, 1) := by decide +kernel
theorem d_Ti_namesAreOpen_19 : decode m_Ti_namesAreOpen.2.1 19 = .ok (.iaload, 1) := by decide +kernel
theorem d_Ti_namesAreOpen_20 : decode m_Ti_namesAreOpen.2.1 20 = .ok (.invokevirtual 31, 3) := by decide +kernel
theorem d_Ti_namesAreOpen_23 : decode m_Ti_namesAreOpen.2.1 23 = .ok (.astore_n 2, 1) := by decide +kernel
theorem d_Ti_namesAreOpen_24 : decode m_Ti_namesAreOpen.2.1 24 = .ok (.aload_n 2, 1) := by decide +kernel
theorem d_Ti_namesAreOpen_25 : decode m_Ti_namesAreOpen.2.1 25 = .ok (.ifnull 20, 3) := by decide +kernel
theorem d_Ti_namesAreOpen_28 : decode m_Ti_namesAreOpen.2.1 28 = .ok (.aload_n 2, 1) := by decide +kernel
theorem d_Ti_namesAreOpen_29 : decode m_Ti_namesAreOpen.2.1 29 = .ok (.getfield 37, 3) := by decide +kernel
theorem d_Ti_namesAreOpen_32 : decode m_Ti_namesAreOpen.2.1 32 = .ok (.aload_n 0, 1) := by decide +kernel
theorem d_Ti_namesAreOpen_33 : decode m_Ti_namesAreOpen.2.1 33 = .ok (.aload_n 0, 1) := by decide +kernel
theorem d_Ti_namesAreOpen_34 : decode m_Ti_namesAreOpen.2.1 34 = .ok (.getfield 9, 3) := by decide +kernel
theorem d_Ti_namesAreOpen_37 : decode m_Ti_namesAreOpen.2.1 37 = .ok (.iload_n 1, 1) := by decide +kernel
theorem d_Ti_namesAreOpen_38 : decode m_Ti_namesAreOpen.2.1 38 = .ok (.iaload, 1) := by decide +kernel
theorem d_Ti_namesAreOpen_39 : decode m_Ti_namesAreOpen.2.1 39 = .ok (.invokevirtual 42, 3) := by decide +kernel
theorem d_Ti_namesAreOpen_42 : decode m_Ti_namesAreOpen.2.1 42 = .ok (.if_icmp .ge 5, 3) := by decide +kernel
theorem d_Ti_namesAreOpen_45 : decode m_Ti_namesAreOpen.2.1 45 = .ok (.iconst 0, 1) := by decide +kernel
theorem d_Ti_namesAreOpen_46 : decode m_Ti_namesAreOpen.2.1 46 = .ok (.ireturn, 1) := by decide +kernel
theorem d_Ti_namesAreOpen_47 : decode m_Ti_namesAreOpen.2.1 47 = .ok (.iinc 1 1, 3) := by decide +kernel
theorem d_Ti_namesAreOpen_50 : decode m_Ti_namesAreOpen.2.1 50 = .ok (.goto (-48), 3) := by decide +kernel
theorem d_Ti_namesAreOpen_53 : decode m_Ti_namesAreOpen.2.1 53 = .ok (.iconst 1, 1) := by decide +kernel
theorem d_Ti_namesAreOpen_54 : decode m_Ti_namesAreOpen.2.1 54 = .ok (.ireturn, 1) := by decide +kernel
theorem d_Ti_timesNamed_0 : decode m_Ti_timesNamed.2.1 0 = .ok (.iconst 0, 1) := by decide +kernel
theorem d_Ti_timesNamed_1 : decode m_Ti_timesNamed.2.1 1 = .ok (.istore_n 2, 1) := by decide +kernel
theorem d_Ti_timesNamed_2 : decode m_Ti_timesNamed.2.1 2 = .ok (.iconst 0, 1) := by decide +kernel
theorem d_Ti_timesNamed_3 : decode m_Ti_timesNamed.2.1 3 = .ok (.istore_n 3, 1) := by decide +kernel
theorem d_Ti_timesNamed_4 : decode m_Ti_timesNamed.2.1 4 = .ok (.iload_n 3, 1) := by decide +kernel
theorem d_Ti_timesNamed_5 : decode m_Ti_timesNamed.2.1 5 = .ok (.aload_n 0, 1) := by decide +kernel
theorem d_Ti_timesNamed_6 : decode m_Ti_timesNamed.2.1 6 = .ok (.getfield 23, 3) := by decide +kernel
theorem d_Ti_timesNamed_9 : decode m_Ti_timesNamed.2.1 9 = .ok (.if_icmp .ge 22, 3) := by decide +kernel
theorem d_Ti_timesNamed_12 : decode m_Ti_timesNamed.2.1 12 = .ok (.aload_n 0, 1) := by decide +kernel
theorem d_Ti_timesNamed_13 : decode m_Ti_timesNamed.2.1 13 = .ok (.getfield 9, 3) := by decide +kernel
theorem d_Ti_timesNamed_16 : decode m_Ti_timesNamed.2.1 16 = .ok (.iload_n 3, 1) := by decide +kernel
theorem d_Ti_timesNamed_17 : decode m_Ti_timesNamed.2.1 17 = .ok (.iaload, 1) := by decide +kernel
theorem d_Ti_timesNamed_18 : decode m_Ti_timesNamed.2.1 18 = .ok (.iload_n 1, 1) := by decide +kernel
theorem d_Ti_timesNamed_19 : decode m_Ti_timesNamed.2.1 19 = .ok (.if_icmp .ne 6, 3) := by decide +kernel
theorem d_Ti_timesNamed_22 : decode m_Ti_timesNamed.2.1 22 = .ok (.iinc 2 1, 3) := by decide +kernel
theorem d_Ti_timesNamed_25 : decode m_Ti_timesNamed.2.1 25 = .ok (.iinc 3 1, 3) := by decide +kernel
theorem d_Ti_timesNamed_28 : decode m_Ti_timesNamed.2.1 28 = .ok (.goto (-24), 3) := by decide +kernel
theorem d_Ti_timesNamed_31 : decode m_Ti_timesNamed.2.1 31 = .ok (.iload_n 2, 1) := by decide +kernel
theorem d_Ti_timesNamed_32 : decode m_Ti_timesNamed.2.1 32 = .ok (.ireturn, 1) := by decide +kernel
theorem d_Ti_fill_0 : decode m_Ti_fill.2.1 0 = .ok (.aload_n 0, 1) := by decide +kernel
theorem d_Ti_fill_1 : decode m_Ti_fill.2.1 1 = .ok (.getfield 19, 3) := by decide +kernel
theorem d_Ti_fill_4 : decode m_Ti_fill.2.1 4 = .ok (.invokevirtual 46, 3) := by decide +kernel
theorem d_Ti_fill_7 : decode m_Ti_fill.2.1 7 = .ok (.aload_n 0, 1) := by decide +kernel
theorem d_Ti_fill_8 : decode m_Ti_fill.2.1 8 = .ok (.aload_n 1, 1) := by decide +kernel
theorem d_Ti_fill_9 : decode m_Ti_fill.2.1 9 = .ok (.iconst 0, 1) := by decide +kernel
theorem d_Ti_fill_10 : decode m_Ti_fill.2.1 10 = .ok (.invokevirtual 51, 3) := by decide +kernel
theorem d_Ti_fill_13 : decode m_Ti_fill.2.1 13 = .ok (.pop, 1) := by decide +kernel
theorem d_Ti_fill_14 : decode m_Ti_fill.2.1 14 = .ok (.return_, 1) := by decide +kernel
theorem d_Ti_placeFrom_0 : decode m_Ti_placeFrom.2.1 0 = .ok (.iload_n 2, 1) := by decide +kernel
theorem d_Ti_placeFrom_1 : decode m_Ti_placeFrom.2.1 1 = .ok (.aload_n 0, 1) := by decide +kernel
theorem d_Ti_placeFrom_2 : decode m_Ti_placeFrom.2.1 2 = .ok (.getfield 23, 3) := by decide +kernel
theorem d_Ti_placeFrom_5 : decode m_Ti_placeFrom.2.1 5 = .ok (.if_icmp .lt 5, 3) := by decide +kernel
theorem d_Ti_placeFrom_8 : decode m_Ti_placeFrom.2.1 8 = .ok (.iconst 1, 1) := by decide +kernel
theorem d_Ti_placeFrom_9 : decode m_Ti_placeFrom.2.1 9 = .ok (.ireturn, 1) := by decide +kernel
theorem d_Ti_placeFrom_10 : decode m_Ti_placeFrom.2.1 10 = .ok (.aload_n 0, 1) := by decide +kernel
theorem d_Ti_placeFrom_11 : decode m_Ti_placeFrom.2.1 11 = .ok (.getfield 19, 3) := by decide +kernel
theorem d_Ti_placeFrom_14 : decode m_Ti_placeFrom.2.1 14 = .ok (.invokevirtual 55, 3) := by decide +kernel
theorem d_Ti_placeFrom_17 : decode m_Ti_placeFrom.2.1 17 = .ok (.istore_n 3, 1) := by decide +kernel
theorem d_Ti_placeFrom_18 : decode m_Ti_placeFrom.2.1 18 = .ok (.iconst 0, 1) := by decide +kernel
theorem d_Ti_placeFrom_19 : decode m_Ti_placeFrom.2.1 19 = .ok (.istore 4, 2) := by decide +kernel
theorem d_Ti_placeFrom_21 : decode m_Ti_placeFrom.2.1 21 = .ok (.iload 4, 2) := by decide +kernel
theorem d_Ti_placeFrom_23 : decode m_Ti_placeFrom.2.1 23 = .ok (.iload_n 3, 1) := by decide +kernel
theorem d_Ti_placeFrom_24 : decode m_Ti_placeFrom.2.1 24 = .ok (.if_icmp .gt 66, 3) := by decide +kernel
theorem d_Ti_placeFrom_27 : decode m_Ti_placeFrom.2.1 27 = .ok (.aload_n 0, 1) := by decide +kernel
theorem d_Ti_placeFrom_28 : decode m_Ti_placeFrom.2.1 28 = .ok (.getfield 19, 3) := by decide +kernel
theorem d_Ti_placeFrom_31 : decode m_Ti_placeFrom.2.1 31 = .ok (.iload 4, 2) := by decide +kernel
theorem d_Ti_placeFrom_33 : decode m_Ti_placeFrom.2.1 33 = .ok (.invokevirtual 59, 3) := by decide +kernel
theorem d_Ti_placeFrom_36 : decode m_Ti_placeFrom.2.1 36 = .ok (.istore 5, 2) := by decide +kernel
theorem d_Ti_placeFrom_38 : decode m_Ti_placeFrom.2.1 38 = .ok (.iconst 0, 1) := by decide +kernel
theorem d_Ti_placeFrom_39 : decode m_Ti_placeFrom.2.1 39 = .ok (.istore 6, 2) := by decide +kernel
theorem d_Ti_placeFrom_41 : decode m_Ti_placeFrom.2.1 41 = .ok (.iload 6, 2) := by decide +kernel
theorem d_Ti_placeFrom_43 : decode m_Ti_placeFrom.2.1 43 = .ok (.iload 5, 2) := by decide +kernel
theorem d_Ti_placeFrom_45 : decode m_Ti_placeFrom.2.1 45 = .ok (.if_icmp .gt 39, 3) := by decide +kernel
theorem d_Ti_placeFrom_48 : decode m_Ti_placeFrom.2.1 48 = .ok (.aload_n 0, 1) := by decide +kernel
theorem d_Ti_placeFrom_49 : decode m_Ti_placeFrom.2.1 49 = .ok (.aload_n 1, 1) := by decide +kernel
theorem d_Ti_placeFrom_50 : decode m_Ti_placeFrom.2.1 50 = .ok (.iload_n 2, 1) := by decide +kernel
theorem d_Ti_placeFrom_51 : decode m_Ti_placeFrom.2.1 51 = .ok (.iload 4, 2) := by decide +kernel
theorem d_Ti_placeFrom_53 : decode m_Ti_placeFrom.2.1 53 = .ok (.iload 6, 2) := by decide +kernel
theorem d_Ti_placeFrom_55 : decode m_Ti_placeFrom.2.1 55 = .ok (.iconst 0, 1) := by decide +kernel
theorem d_Ti_placeFrom_56 : decode m_Ti_placeFrom.2.1 56 = .ok (.invokevirtual 62, 3) := by decide +kernel
theorem d_Ti_placeFrom_59 : decode m_Ti_placeFrom.2.1 59 = .ok (.ifCond .ne 17, 3) := by decide +kernel
theorem d_Ti_placeFrom_62 : decode m_Ti_placeFrom.2.1 62 = .ok (.aload_n 0, 1) := by decide +kernel
theorem d_Ti_placeFrom_63 : decode m_Ti_placeFrom.2.1 63 = .ok (.aload_n 1, 1) := by decide +kernel
theorem d_Ti_placeFrom_64 : decode m_Ti_placeFrom.2.1 64 = .ok (.iload_n 2, 1) := by decide +kernel
theorem d_Ti_placeFrom_65 : decode m_Ti_placeFrom.2.1 65 = .ok (.iload 4, 2) := by decide +kernel
theorem d_Ti_placeFrom_67 : decode m_Ti_placeFrom.2.1 67 = .ok (.iload 6, 2) := by decide +kernel
theorem d_Ti_placeFrom_69 : decode m_Ti_placeFrom.2.1 69 = .ok (.iconst 1, 1) := by decide +kernel
theorem d_Ti_placeFrom_70 : decode m_Ti_placeFrom.2.1 70 = .ok (.invokevirtual 62, 3) := by decide +kernel
theorem d_Ti_placeFrom_73 : decode m_Ti_placeFrom.2.1 73 = .ok (.ifCond .eq 5, 3) := by decide +kernel
theorem d_Ti_placeFrom_76 : decode m_Ti_placeFrom.2.1 76 = .ok (.iconst 1, 1) := by decide +kernel
theorem d_Ti_placeFrom_77 : decode m_Ti_placeFrom.2.1 77 = .ok (.ireturn, 1) := by decide +kernel
theorem d_Ti_placeFrom_78 : decode m_Ti_placeFrom.2.1 78 = .ok (.iinc 6 1, 3) := by decide +kernel
theorem d_Ti_placeFrom_81 : decode m_Ti_placeFrom.2.1 81 = .ok (.goto (-40), 3) := by decide +kernel
theorem d_Ti_placeFrom_84 : decode m_Ti_placeFrom.2.1 84 = .ok (.iinc 4 1, 3) := by decide +kernel
theorem d_Ti_placeFrom_87 : decode m_Ti_placeFrom.2.1 87 = .ok (.goto (-66), 3) := by decide +kernel
theorem d_Ti_placeFrom_90 : decode m_Ti_placeFrom.2.1 90 = .ok (.iconst 0, 1) := by decide +kernel
theorem d_Ti_placeFrom_91 : decode m_Ti_placeFrom.2.1 91 = .ok (.ireturn, 1) := by decide +kernel
theorem d_Ti_placeAt_0 : decode m_Ti_placeAt.2.1 0 = .ok (.aload_n 0, 1) := by decide +kernel
theorem d_Ti_placeAt_1 : decode m_Ti_placeAt.2.1 1 = .ok (.getfield 15, 3) := by decide +kernel
theorem d_Ti_placeAt_4 : decode m_Ti_placeAt.2.1 4 = .ok (.aload_n 0, 1) := by decide +kernel
theorem d_Ti_placeAt_5 : decode m_Ti_placeAt.2.1 5 = .ok (.getfield 9, 3) := by decide +kernel
theorem d_Ti_placeAt_8 : decode m_Ti_placeAt.2.1 8 = .ok (.iload_n 2, 1) := by decide +kernel
theorem d_Ti_placeAt_9 : decode m_Ti_placeAt.2.1 9 = .ok (.iaload, 1) := by decide +kernel
theorem d_Ti_placeAt_10 : decode m_Ti_placeAt.2.1 10 = .ok (.invokevirtual 31, 3) := by decide +kernel
theorem d_Ti_placeAt_13 : decode m_Ti_placeAt.2.1 13 = .ok (.astore 6, 2) := by decide +kernel
theorem d_Ti_placeAt_15 : decode m_Ti_placeAt.2.1 15 = .ok (.aload 6, 2) := by decide +kernel
theorem d_Ti_placeAt_17 : decode m_Ti_placeAt.2.1 17 = .ok (.ifnull 16, 3) := by decide +kernel
theorem d_Ti_placeAt_20 : decode m_Ti_placeAt.2.1 20 = .ok (.iload 5, 2) := by decide +kernel
theorem d_Ti_placeAt_22 : decode m_Ti_placeAt.2.1 22 = .ok (.ifCond .eq 13, 3) := by decide +kernel
theorem d_Ti_placeAt_25 : decode m_Ti_placeAt.2.1 25 = .ok (.aload 6, 2) := by decide +kernel
theorem d_Ti_placeAt_27 : decode m_Ti_placeAt.2.1 27 = .ok (.getfield 66, 3) := by decide +kernel
theorem d_Ti_placeAt_30 : decode m_Ti_placeAt.2.1 30 = .ok (.ifCond .ne 5, 3) := by decide +kernel
theorem d_Ti_placeAt_33 : decode m_Ti_placeAt.2.1 33 = .ok (.iconst 0, 1) := by decide +kernel
theorem d_Ti_placeAt_34 : decode m_Ti_placeAt.2.1 34 = .ok (.ireturn, 1) := by decide +kernel
theorem d_Ti_placeAt_35 : decode m_Ti_placeAt.2.1 35 = .ok (.aload_n 0, 1) := by decide +kernel
theorem d_Ti_placeAt_36 : decode m_Ti_placeAt.2.1 36 = .ok (.getfield 19, 3) := by decide +kernel
theorem d_Ti_placeAt_39 : decode m_Ti_placeAt.2.1 39 = .ok (.aload_n 0, 1) := by decide +kernel
theorem d_Ti_placeAt_40 : decode m_Ti_placeAt.2.1 40 = .ok (.getfield 9, 3) := by decide +kernel
theorem d_Ti_placeAt_43 : decode m_Ti_placeAt.2.1 43 = .ok (.iload_n 2, 1) := by decide +kernel
theorem d_Ti_placeAt_44 : decode m_Ti_placeAt.2.1 44 = .ok (.iaload, 1) := by decide +kernel
theorem d_Ti_placeAt_45 : decode m_Ti_placeAt.2.1 45 = .ok (.iload 5, 2) := by decide +kernel
theorem d_Ti_placeAt_47 : decode m_Ti_placeAt.2.1 47 = .ok (.ifCond .eq 11, 3) := by decide +kernel
theorem d_Ti_placeAt_50 : decode m_Ti_placeAt.2.1 50 = .ok (.aload 6, 2) := by decide +kernel
theorem d_Ti_placeAt_52 : decode m_Ti_placeAt.2.1 52 = .ok (.getfield 70, 3) := by decide +kernel
theorem d_Ti_placeAt_55 : decode m_Ti_placeAt.2.1 55 = .ok (.goto 8, 3) := by decide +kernel
theorem d_Ti_placeAt_58 : decode m_Ti_placeAt.2.1 58 = .ok (.aload 6, 2) := by decide +kernel
theorem d_Ti_placeAt_60 : decode m_Ti_placeAt.2.1 60 = .ok (.getfield 73, 3) := by decide +kernel
theorem d_Ti_placeAt_63 : decode m_Ti_placeAt.2.1 63 = .ok (.iload 5, 2) := by decide +kernel
theorem d_Ti_placeAt_65 : decode m_Ti_placeAt.2.1 65 = .ok (.ifCond .eq 11, 3) := by decide +kernel
theorem d_Ti_placeAt_68 : decode m_Ti_placeAt.2.1 68 = .ok (.aload 6, 2) := by decide +kernel
theorem d_Ti_placeAt_70 : decode m_Ti_placeAt.2.1 70 = .ok (.getfield 73, 3) := by decide +kernel
theorem d_Ti_placeAt_73 : decode m_Ti_placeAt.2.1 73 = .ok (.goto 8, 3) := by decide +kernel
theorem d_Ti_placeAt_76 : decode m_Ti_placeAt.2.1 76 = .ok (.aload 6, 2) := by decide +kernel
theorem d_Ti_placeAt_78 : decode m_Ti_placeAt.2.1 78 = .ok (.getfield 70, 3) := by decide +kernel
theorem d_Ti_placeAt_81 : decode m_Ti_placeAt.2.1 81 = .ok (.iload_n 3, 1) := by decide +kernel
theorem d_Ti_placeAt_82 : decode m_Ti_placeAt.2.1 82 = .ok (.iload 4, 2) := by decide +kernel
theorem d_Ti_placeAt_84 : decode m_Ti_placeAt.2.1 84 = .ok (.invokevirtual 76, 3) := by decide +kernel
theorem d_Ti_placeAt_87 : decode m_Ti_placeAt.2.1 87 = .ok (.aload_n 0, 1) := by decide +kernel
theorem d_Ti_placeAt_88 : decode m_Ti_placeAt.2.1 88 = .ok (.getfield 19, 3) := by decide +kernel
theorem d_Ti_placeAt_91 : decode m_Ti_placeAt.2.1 91 = .ok (.aload_n 1, 1) := by decide +kernel
theorem d_Ti_placeAt_92 : decode m_Ti_placeAt.2.1 92 = .ok (.invokevirtual 80, 3) := by decide +kernel
theorem d_Ti_placeAt_95 : decode m_Ti_placeAt.2.1 95 = .ok (.ifCond .eq 16, 3) := by decide +kernel
theorem d_Ti_placeAt_98 : decode m_Ti_placeAt.2.1 98 = .ok (.aload_n 0, 1) := by decide +kernel
theorem d_Ti_placeAt_99 : decode m_Ti_placeAt.2.1 99 = .ok (.aload_n 1, 1) := by decide +kernel
theorem d_Ti_placeAt_100 : decode m_Ti_placeAt.2.1 100 = .ok (.iload_n 2, 1) := by decide +kernel
theorem d_Ti_placeAt_101 : decode m_Ti_placeAt.2.1 101 = .ok (.iconst 1, 1) := by decide +kernel
theorem d_Ti_placeAt_102 : decode m_Ti_placeAt.2.1 102 = .ok (.iadd, 1) := by decide +kernel
theorem d_Ti_placeAt_103 : decode m_Ti_placeAt.2.1 103 = .ok (.invokevirtual 51, 3) := by decide +kernel
theorem d_Ti_placeAt_106 : decode m_Ti_placeAt.2.1 106 = .ok (.ifCond .eq 5, 3) := by decide +kernel
theorem d_Ti_placeAt_109 : decode m_Ti_placeAt.2.1 109 = .ok (.iconst 1, 1) := by decide +kernel
theorem d_Ti_placeAt_110 : decode m_Ti_placeAt.2.1 110 = .ok (.ireturn, 1) := by decide +kernel
theorem d_Ti_placeAt_111 : decode m_Ti_placeAt.2.1 111 = .ok (.aload_n 0, 1) := by decide +kernel
theorem d_Ti_placeAt_112 : decode m_Ti_placeAt.2.1 112 = .ok (.getfield 19, 3) := by decide +kernel
theorem d_Ti_placeAt_115 : decode m_Ti_placeAt.2.1 115 = .ok (.invokevirtual 84, 3) := by decide +kernel
theorem d_Ti_placeAt_118 : decode m_Ti_placeAt.2.1 118 = .ok (.iconst 0, 1) := by decide +kernel
theorem d_Ti_placeAt_119 : decode m_Ti_placeAt.2.1 119 = .ok (.ireturn, 1) := by decide +kernel
theorem d_La_fitsOn_0 : decode m_La_fitsOn.2.1 0 = .ok (.iconst 0, 1) := by decide +kernel
theorem d_La_fitsOn_1 : decode m_La_fitsOn.2.1 1 = .ok (.istore_n 2, 1) := by decide +kernel
theorem d_La_fitsOn_2 : decode m_La_fitsOn.2.1 2 = .ok (.aload_n 0, 1) := by decide +kernel
theorem d_La_fitsOn_3 : decode m_La_fitsOn.2.1 3 = .ok (.invokevirtual 51, 3) := by decide +kernel
theorem d_La_fitsOn_6 : decode m_La_fitsOn.2.1 6 = .ok (.istore_n 3, 1) := by decide +kernel
theorem d_La_fitsOn_7 : decode m_La_fitsOn.2.1 7 = .ok (.iconst 0, 1) := by decide +kernel
theorem d_La_fitsOn_8 : decode m_La_fitsOn.2.1 8 = .ok (.istore 4, 2) := by decide +kernel
theorem d_La_fitsOn_10 : decode m_La_fitsOn.2.1 10 = .ok (.iload 4, 2) := by decide +kernel
theorem d_La_fitsOn_12 : decode m_La_fitsOn.2.1 12 = .ok (.iload_n 3, 1) := by decide +kernel
theorem d_La_fitsOn_13 : decode m_La_fitsOn.2.1 13 = .ok (.if_icmp .ge 33, 3) := by decide +kernel
theorem d_La_fitsOn_16 : decode m_La_fitsOn.2.1 16 = .ok (.aload_n 0, 1) := by decide +kernel
theorem d_La_fitsOn_17 : decode m_La_fitsOn.2.1 17 = .ok (.iload 4, 2) := by decide +kernel
theorem d_La_fitsOn_19 : decode m_La_fitsOn.2.1 19 = .ok (.invokevirtual 55, 3) := by decide +kernel
theorem d_La_fitsOn_22 : decode m_La_fitsOn.2.1 22 = .ok (.aload_n 1, 1) := by decide +kernel
theorem d_La_fitsOn_23 : decode m_La_fitsOn.2.1 23 = .ok (.getfield 58, 3) := by decide +kernel
theorem d_La_fitsOn_26 : decode m_La_fitsOn.2.1 26 = .ok (.if_icmp .le 5, 3) := by decide +kernel
theorem d_La_fitsOn_29 : decode m_La_fitsOn.2.1 29 = .ok (.iconst 0, 1) := by decide +kernel
theorem d_La_fitsOn_30 : decode m_La_fitsOn.2.1 30 = .ok (.ireturn, 1) := by decide +kernel
theorem d_La_fitsOn_31 : decode m_La_fitsOn.2.1 31 = .ok (.iload_n 2, 1) := by decide +kernel
theorem d_La_fitsOn_32 : decode m_La_fitsOn.2.1 32 = .ok (.aload_n 0, 1) := by decide +kernel
theorem d_La_fitsOn_33 : decode m_La_fitsOn.2.1 33 = .ok (.iload 4, 2) := by decide +kernel
theorem d_La_fitsOn_35 : decode m_La_fitsOn.2.1 35 = .ok (.invokevirtual 62, 3) := by decide +kernel
theorem d_La_fitsOn_38 : decode m_La_fitsOn.2.1 38 = .ok (.iadd, 1) := by decide +kernel
theorem d_La_fitsOn_39 : decode m_La_fitsOn.2.1 39 = .ok (.istore_n 2, 1) := by decide +kernel
theorem d_La_fitsOn_40 : decode m_La_fitsOn.2.1 40 = .ok (.iinc 4 1, 3) := by decide +kernel
theorem d_La_fitsOn_43 : decode m_La_fitsOn.2.1 43 = .ok (.goto (-33), 3) := by decide +kernel
theorem d_La_fitsOn_46 : decode m_La_fitsOn.2.1 46 = .ok (.iload_n 2, 1) := by decide +kernel
theorem d_La_fitsOn_47 : decode m_La_fitsOn.2.1 47 = .ok (.aload_n 1, 1) := by decide +kernel
theorem d_La_fitsOn_48 : decode m_La_fitsOn.2.1 48 = .ok (.getfield 65, 3) := by decide +kernel
theorem d_La_fitsOn_51 : decode m_La_fitsOn.2.1 51 = .ok (.if_icmp .gt 7, 3) := by decide +kernel
theorem d_La_fitsOn_54 : decode m_La_fitsOn.2.1 54 = .ok (.iconst 1, 1) := by decide +kernel
theorem d_La_fitsOn_55 : decode m_La_fitsOn.2.1 55 = .ok (.goto 4, 3) := by decide +kernel
theorem d_La_fitsOn_58 : decode m_La_fitsOn.2.1 58 = .ok (.iconst 0, 1) := by decide +kernel
theorem d_La_fitsOn_59 : decode m_La_fitsOn.2.1 59 = .ok (.ireturn, 1) := by decide +kernel
theorem d_La_columnHeight_0 : decode m_La_columnHeight.2.1 0 = .ok (.iconst 0, 1) := by decide +kernel
theorem d_La_columnHeight_1 : decode m_La_columnHeight.2.1 1 = .ok (.istore_n 2, 1) := by decide +kernel
theorem d_La_columnHeight_2 : decode m_La_columnHeight.2.1 2 = .ok (.aload_n 0, 1) := by decide +kernel
theorem d_La_columnHeight_3 : decode m_La_columnHeight.2.1 3 = .ok (.iload_n 1, 1) := by decide +kernel
theorem d_La_columnHeight_4 : decode m_La_columnHeight.2.1 4 = .ok (.invokevirtual 41, 3) := by decide +kernel
theorem d_La_columnHeight_7 : decode m_La_columnHeight.2.1 7 = .ok (.istore_n 3, 1) := by decide +kernel
theorem d_La_columnHeight_8 : decode m_La_columnHeight.2.1 8 = .ok (.iconst 0, 1) := by decide +kernel
theorem d_La_columnHeight_9 : decode m_La_columnHeight.2.1 9 = .ok (.istore 4, 2) := by decide +kernel
theorem d_La_columnHeight_11 : decode m_La_columnHeight.2.1 11 = .ok (.iload 4, 2) := by decide +kernel
theorem d_La_columnHeight_13 : decode m_La_columnHeight.2.1 13 = .ok (.iload_n 3, 1) := by decide +kernel
theorem d_La_columnHeight_14 : decode m_La_columnHeight.2.1 14 = .ok (.if_icmp .ge 19, 3) := by decide +kernel
theorem d_La_columnHeight_17 : decode m_La_columnHeight.2.1 17 = .ok (.iload_n 2, 1) := by decide +kernel
theorem d_La_columnHeight_18 : decode m_La_columnHeight.2.1 18 = .ok (.aload_n 0, 1) := by decide +kernel
theorem d_La_columnHeight_19 : decode m_La_columnHeight.2.1 19 = .ok (.iload_n 1, 1) := by decide +kernel
theorem d_La_columnHeight_20 : decode m_La_columnHeight.2.1 20 = .ok (.iload 4, 2) := by decide +kernel
theorem d_La_columnHeight_22 : decode m_La_columnHeight.2.1 22 = .ok (.invokevirtual 48, 3) := by decide +kernel
theorem d_La_columnHeight_25 : decode m_La_columnHeight.2.1 25 = .ok (.iadd, 1) := by decide +kernel
theorem d_La_columnHeight_26 : decode m_La_columnHeight.2.1 26 = .ok (.istore_n 2, 1) := by decide +kernel
theorem d_La_columnHeight_27 : decode m_La_columnHeight.2.1 27 = .ok (.iinc 4 1, 3) := by decide +kernel
theorem d_La_columnHeight_30 : decode m_La_columnHeight.2.1 30 = .ok (.goto (-19), 3) := by decide +kernel
theorem d_La_columnHeight_33 : decode m_La_columnHeight.2.1 33 = .ok (.iload_n 2, 1) := by decide +kernel
theorem d_La_columnHeight_34 : decode m_La_columnHeight.2.1 34 = .ok (.ireturn, 1) := by decide +kernel
theorem d_La_dropLast_0 : decode m_La_dropLast.2.1 0 = .ok (.aload_n 0, 1) := by decide +kernel
theorem d_La_dropLast_1 : decode m_La_dropLast.2.1 1 = .ok (.getfield 27, 3) := by decide +kernel
theorem d_La_dropLast_4 : decode m_La_dropLast.2.1 4 = .ok (.ifCond .le 13, 3) := by decide +kernel
theorem d_La_dropLast_7 : decode m_La_dropLast.2.1 7 = .ok (.aload_n 0, 1) := by decide +kernel
theorem d_La_dropLast_8 : decode m_La_dropLast.2.1 8 = .ok (.dup, 1) := by decide +kernel
theorem d_La_dropLast_9 : decode m_La_dropLast.2.1 9 = .ok (.getfield 27, 3) := by decide +kernel
theorem d_La_dropLast_12 : decode m_La_dropLast.2.1 12 = .ok (.iconst 1, 1) := by decide +kernel
theorem d_La_dropLast_13 : decode m_La_dropLast.2.1 13 = .ok (.isub, 1) := by decide +kernel
theorem d_La_dropLast_14 : decode m_La_dropLast.2.1 14 = .ok (.putfield 27, 3) := by decide +kernel
theorem d_La_dropLast_17 : decode m_La_dropLast.2.1 17 = .ok (.return_, 1) := by decide +kernel
theorem d_Lw_node_0 : decode m_Lw_node.2.1 0 = .ok (.aload 4, 2) := by decide +kernel
theorem d_Lw_node_2 : decode m_Lw_node.2.1 2 = .ok (.iconst 0, 1) := by decide +kernel
theorem d_Lw_node_3 : decode m_Lw_node.2.1 3 = .ok (.aload_n 0, 1) := by decide +kernel
theorem d_Lw_node_4 : decode m_Lw_node.2.1 4 = .ok (.iload_n 1, 1) := by decide +kernel
theorem d_Lw_node_5 : decode m_Lw_node.2.1 5 = .ok (.iload_n 2, 1) := by decide +kernel
theorem d_Lw_node_6 : decode m_Lw_node.2.1 6 = .ok (.iload_n 3, 1) := by decide +kernel
theorem d_Lw_node_7 : decode m_Lw_node.2.1 7 = .ok (.invokevirtual 35, 3) := by decide +kernel
theorem d_Lw_node_10 : decode m_Lw_node.2.1 10 = .ok (.i2l, 1) := by decide +kernel
theorem d_Lw_node_11 : decode m_Lw_node.2.1 11 = .ok (.lastore, 1) := by decide +kernel
theorem d_Lw_node_12 : decode m_Lw_node.2.1 12 = .ok (.goto 19, 3) := by decide +kernel
theorem d_Lw_node_15 : decode m_Lw_node.2.1 15 = .ok (.astore 5, 2) := by decide +kernel
theorem d_Lw_node_17 : decode m_Lw_node.2.1 17 = .ok (.iconst 1, 1) := by decide +kernel
theorem d_Lw_node_18 : decode m_Lw_node.2.1 18 = .ok (.ireturn, 1) := by decide +kernel
theorem d_Lw_node_19 : decode m_Lw_node.2.1 19 = .ok (.astore 5, 2) := by decide +kernel
theorem d_Lw_node_21 : decode m_Lw_node.2.1 21 = .ok (.iconst 2, 1) := by decide +kernel
theorem d_Lw_node_22 : decode m_Lw_node.2.1 22 = .ok (.ireturn, 1) := by decide +kernel
theorem d_Lw_node_23 : decode m_Lw_node.2.1 23 = .ok (.astore 5, 2) := by decide +kernel
theorem d_Lw_node_25 : decode m_Lw_node.2.1 25 = .ok (.iconst 3, 1) := by decide +kernel
theorem d_Lw_node_26 : decode m_Lw_node.2.1 26 = .ok (.ireturn, 1) := by decide +kernel
theorem d_Lw_node_27 : decode m_Lw_node.2.1 27 = .ok (.astore 5, 2) := by decide +kernel
theorem d_Lw_node_29 : decode m_Lw_node.2.1 29 = .ok (.iconst 4, 1) := by decide +kernel
theorem d_Lw_node_30 : decode m_Lw_node.2.1 30 = .ok (.ireturn, 1) := by decide +kernel
theorem d_Lw_node_31 : decode m_Lw_node.2.1 31 = .ok (.iconst 0, 1) := by decide +kernel
theorem d_Lw_node_32 : decode m_Lw_node.2.1 32 = .ok (.ireturn, 1) := by decide +kernel
theorem d_Ha_node_0 : decode m_Ha_node.2.1 0 = .ok (.aload_n 0, 1) := by decide +kernel
theorem d_Ha_node_1 : decode m_Ha_node.2.1 1 = .ok (.iload_n 1, 1) := by decide +kernel
theorem d_Ha_node_2 : decode m_Ha_node.2.1 2 = .ok (.invokevirtual 154, 3) := by decide +kernel
theorem d_Ha_node_5 : decode m_Ha_node.2.1 5 = .ok (.getfield 104, 3) := by decide +kernel
theorem d_Ha_node_8 : decode m_Ha_node.2.1 8 = .ok (.astore 4, 2) := by decide +kernel
theorem d_Ha_node_10 : decode m_Ha_node.2.1 10 = .ok (.aload 4, 2) := by decide +kernel
theorem d_Ha_node_12 : decode m_Ha_node.2.1 12 = .ok (.iload_n 2, 1) := by decide +kernel
theorem d_Ha_node_13 : decode m_Ha_node.2.1 13 = .ok (.invokevirtual 157, 3) := by decide +kernel
theorem d_Ha_node_16 : decode m_Ha_node.2.1 16 = .ok (.ifCond .ne 11, 3) := by decide +kernel
theorem d_Ha_node_19 : decode m_Ha_node.2.1 19 = .ok (.new 160, 3) := by decide +kernel
theorem d_Ha_node_22 : decode m_Ha_node.2.1 22 = .ok (.dup, 1) := by decide +kernel
theorem d_Ha_node_23 : decode m_Ha_node.2.1 23 = .ok (.invokespecial 162, 3) := by decide +kernel
theorem d_Ha_node_26 : decode m_Ha_node.2.1 26 = .ok (.athrow, 1) := by decide +kernel
theorem d_Ha_node_27 : decode m_Ha_node.2.1 27 = .ok (.iload_n 3, 1) := by decide +kernel
theorem d_Ha_node_28 : decode m_Ha_node.2.1 28 = .ok (.ifCond .lt 9, 3) := by decide +kernel
theorem d_Ha_node_31 : decode m_Ha_node.2.1 31 = .ok (.iload_n 3, 1) := by decide +kernel
theorem d_Ha_node_32 : decode m_Ha_node.2.1 32 = .ok (.bipush 8, 2) := by decide +kernel
theorem d_Ha_node_34 : decode m_Ha_node.2.1 34 = .ok (.if_icmp .le 11, 3) := by decide +kernel
theorem d_Ha_node_37 : decode m_Ha_node.2.1 37 = .ok (.new 57, 3) := by decide +kernel
theorem d_Ha_node_40 : decode m_Ha_node.2.1 40 = .ok (.dup, 1) := by decide +kernel
theorem d_Ha_node_41 : decode m_Ha_node.2.1 41 = .ok (.invokespecial 59, 3) := by decide +kernel
theorem d_Ha_node_44 : decode m_Ha_node.2.1 44 = .ok (.athrow, 1) := by decide +kernel
theorem d_Ha_node_45 : decode m_Ha_node.2.1 45 = .ok (.aload 4, 2) := by decide +kernel
theorem d_Ha_node_47 : decode m_Ha_node.2.1 47 = .ok (.iload_n 2, 1) := by decide +kernel
theorem d_Ha_node_48 : decode m_Ha_node.2.1 48 = .ok (.iload_n 3, 1) := by decide +kernel
theorem d_Ha_node_49 : decode m_Ha_node.2.1 49 = .ok (.invokevirtual 163, 3) := by decide +kernel
theorem d_Ha_node_52 : decode m_Ha_node.2.1 52 = .ok (.ireturn, 1) := by decide +kernel
theorem d_Ha_findPlanned_0 : decode m_Ha_findPlanned.2.1 0 = .ok (.aload_n 0, 1) := by decide +kernel
theorem d_Ha_findPlanned_1 : decode m_Ha_findPlanned.2.1 1 = .ok (.iload_n 1, 1) := by decide +kernel
theorem d_Ha_findPlanned_2 : decode m_Ha_findPlanned.2.1 2 = .ok (.invokevirtual 89, 3) := by decide +kernel
theorem d_Ha_findPlanned_5 : decode m_Ha_findPlanned.2.1 5 = .ok (.astore_n 2, 1) := by decide +kernel
theorem d_Ha_findPlanned_6 : decode m_Ha_findPlanned.2.1 6 = .ok (.aload_n 2, 1) := by decide +kernel
theorem d_Ha_findPlanned_7 : decode m_Ha_findPlanned.2.1 7 = .ok (.getfield 104, 3) := by decide +kernel
theorem d_Ha_findPlanned_10 : decode m_Ha_findPlanned.2.1 10 = .ok (.invokevirtual 108, 3) := by decide +kernel
theorem d_Ha_findPlanned_13 : decode m_Ha_findPlanned.2.1 13 = .ok (.ifCond .ne 11, 3) := by decide +kernel
theorem d_Ha_findPlanned_16 : decode m_Ha_findPlanned.2.1 16 = .ok (.new 64, 3) := by decide +kernel
theorem d_Ha_findPlanned_19 : decode m_Ha_findPlanned.2.1 19 = .ok (.dup, 1) := by decide +kernel
theorem d_Ha_findPlanned_20 : decode m_Ha_findPlanned.2.1 20 = .ok (.invokespecial 66, 3) := by decide +kernel
theorem d_Ha_findPlanned_23 : decode m_Ha_findPlanned.2.1 23 = .ok (.athrow, 1) := by decide +kernel
theorem d_Ha_findPlanned_24 : decode m_Ha_findPlanned.2.1 24 = .ok (.aload_n 2, 1) := by decide +kernel
theorem d_Ha_findPlanned_25 : decode m_Ha_findPlanned.2.1 25 = .ok (.areturn, 1) := by decide +kernel
theorem d_Tr_has_0 : decode m_Tr_has.2.1 0 = .ok (.iload_n 1, 1) := by decide +kernel
theorem d_Tr_has_1 : decode m_Tr_has.2.1 1 = .ok (.ifCond .lt 15, 3) := by decide +kernel
theorem d_Tr_has_4 : decode m_Tr_has.2.1 4 = .ok (.iload_n 1, 1) := by decide +kernel
theorem d_Tr_has_5 : decode m_Tr_has.2.1 5 = .ok (.aload_n 0, 1) := by decide +kernel
theorem d_Tr_has_6 : decode m_Tr_has.2.1 6 = .ok (.getfield 36, 3) := by decide +kernel
theorem d_Tr_has_9 : decode m_Tr_has.2.1 9 = .ok (.if_icmp .ge 7, 3) := by decide +kernel
theorem d_Tr_has_12 : decode m_Tr_has.2.1 12 = .ok (.iconst 1, 1) := by decide +kernel
theorem d_Tr_has_13 : decode m_Tr_has.2.1 13 = .ok (.goto 4, 3) := by decide +kernel
theorem d_Tr_has_16 : decode m_Tr_has.2.1 16 = .ok (.iconst 0, 1) := by decide +kernel
theorem d_Tr_has_17 : decode m_Tr_has.2.1 17 = .ok (.ireturn, 1) := by decide +kernel
theorem d_Tr_tell_0 : decode m_Tr_tell.2.1 0 = .ok (.iload_n 2, 1) := by decide +kernel
theorem d_Tr_tell_1 : decode m_Tr_tell.2.1 1 = .ok (.tableswitch 112 0 7 #[47, 54, 61, 68, 75, 82, 89, 105], 47) := by decide +kernel
theorem d_Tr_tell_48 : decode m_Tr_tell.2.1 48 = .ok (.aload_n 0, 1) := by decide +kernel
theorem d_Tr_tell_49 : decode m_Tr_tell.2.1 49 = .ok (.getfield 9, 3) := by decide +kernel
theorem d_Tr_tell_52 : decode m_Tr_tell.2.1 52 = .ok (.iload_n 1, 1) := by decide +kernel
theorem d_Tr_tell_53 : decode m_Tr_tell.2.1 53 = .ok (.iaload, 1) := by decide +kernel
theorem d_Tr_tell_54 : decode m_Tr_tell.2.1 54 = .ok (.ireturn, 1) := by decide +kernel
theorem d_Tr_tell_55 : decode m_Tr_tell.2.1 55 = .ok (.aload_n 0, 1) := by decide +kernel
theorem d_Tr_tell_56 : decode m_Tr_tell.2.1 56 = .ok (.getfield 15, 3) := by decide +kernel
theorem d_Tr_tell_59 : decode m_Tr_tell.2.1 59 = .ok (.iload_n 1, 1) := by decide +kernel
theorem d_Tr_tell_60 : decode m_Tr_tell.2.1 60 = .ok (.iaload, 1) := by decide +kernel
theorem d_Tr_tell_61 : decode m_Tr_tell.2.1 61 = .ok (.ireturn, 1) := by decide +kernel
theorem d_Tr_tell_62 : decode m_Tr_tell.2.1 62 = .ok (.aload_n 0, 1) := by decide +kernel
theorem d_Tr_tell_63 : decode m_Tr_tell.2.1 63 = .ok (.getfield 18, 3) := by decide +kernel
theorem d_Tr_tell_66 : decode m_Tr_tell.2.1 66 = .ok (.iload_n 1, 1) := by decide +kernel
theorem d_Tr_tell_67 : decode m_Tr_tell.2.1 67 = .ok (.iaload, 1) := by decide +kernel
theorem d_Tr_tell_68 : decode m_Tr_tell.2.1 68 = .ok (.ireturn, 1) := by decide +kernel
theorem d_Tr_tell_69 : decode m_Tr_tell.2.1 69 = .ok (.aload_n 0, 1) := by decide +kernel
theorem d_Tr_tell_70 : decode m_Tr_tell.2.1 70 = .ok (.getfield 21, 3) := by decide +kernel
theorem d_Tr_tell_73 : decode m_Tr_tell.2.1 73 = .ok (.iload_n 1, 1) := by decide +kernel
theorem d_Tr_tell_74 : decode m_Tr_tell.2.1 74 = .ok (.iaload, 1) := by decide +kernel
theorem d_Tr_tell_75 : decode m_Tr_tell.2.1 75 = .ok (.ireturn, 1) := by decide +kernel
theorem d_Tr_tell_76 : decode m_Tr_tell.2.1 76 = .ok (.aload_n 0, 1) := by decide +kernel
theorem d_Tr_tell_77 : decode m_Tr_tell.2.1 77 = .ok (.getfield 24, 3) := by decide +kernel
theorem d_Tr_tell_80 : decode m_Tr_tell.2.1 80 = .ok (.iload_n 1, 1) := by decide +kernel
theorem d_Tr_tell_81 : decode m_Tr_tell.2.1 81 = .ok (.iaload, 1) := by decide +kernel
theorem d_Tr_tell_82 : decode m_Tr_tell.2.1 82 = .ok (.ireturn, 1) := by decide +kernel
theorem d_Tr_tell_83 : decode m_Tr_tell.2.1 83 = .ok (.aload_n 0, 1) := by decide +kernel
theorem d_Tr_tell_84 : decode m_Tr_tell.2.1 84 = .ok (.getfield 27, 3) := by decide +kernel
theorem d_Tr_tell_87 : decode m_Tr_tell.2.1 87 = .ok (.iload_n 1, 1) := by decide +kernel
theorem d_Tr_tell_88 : decode m_Tr_tell.2.1 88 = .ok (.iaload, 1) := by decide +kernel
theorem d_Tr_tell_89 : decode m_Tr_tell.2.1 89 = .ok (.ireturn, 1) := by decide +kernel
theorem d_Tr_tell_90 : decode m_Tr_tell.2.1 90 = .ok (.aload_n 0, 1) := by decide +kernel
theorem d_Tr_tell_91 : decode m_Tr_tell.2.1 91 = .ok (.iload_n 1, 1) := by decide +kernel
theorem d_Tr_tell_92 : decode m_Tr_tell.2.1 92 = .ok (.invokevirtual 97, 3) := by decide +kernel
theorem d_Tr_tell_95 : decode m_Tr_tell.2.1 95 = .ok (.ifCond .eq 9, 3) := by decide +kernel
theorem d_Tr_tell_98 : decode m_Tr_tell.2.1 98 = .ok (.iload_n 1, 1) := by decide +kernel
theorem d_Tr_tell_99 : decode m_Tr_tell.2.1 99 = .ok (.iconst 1, 1) := by decide +kernel
theorem d_Tr_tell_100 : decode m_Tr_tell.2.1 100 = .ok (.iadd, 1) := by decide +kernel
theorem d_Tr_tell_101 : decode m_Tr_tell.2.1 101 = .ok (.goto 4, 3) := by decide +kernel
theorem d_Tr_tell_104 : decode m_Tr_tell.2.1 104 = .ok (.iconst (-1), 1) := by decide +kernel
theorem d_Tr_tell_105 : decode m_Tr_tell.2.1 105 = .ok (.ireturn, 1) := by decide +kernel
theorem d_Tr_tell_106 : decode m_Tr_tell.2.1 106 = .ok (.aload_n 0, 1) := by decide +kernel
theorem d_Tr_tell_107 : decode m_Tr_tell.2.1 107 = .ok (.getfield 30, 3) := by decide +kernel
theorem d_Tr_tell_110 : decode m_Tr_tell.2.1 110 = .ok (.iload_n 1, 1) := by decide +kernel
theorem d_Tr_tell_111 : decode m_Tr_tell.2.1 111 = .ok (.iaload, 1) := by decide +kernel
theorem d_Tr_tell_112 : decode m_Tr_tell.2.1 112 = .ok (.ireturn, 1) := by decide +kernel
theorem d_Tr_tell_113 : decode m_Tr_tell.2.1 113 = .ok (.aload_n 0, 1) := by decide +kernel
theorem d_Tr_tell_114 : decode m_Tr_tell.2.1 114 = .ok (.getfield 33, 3) := by decide +kernel
theorem d_Tr_tell_117 : decode m_Tr_tell.2.1 117 = .ok (.iload_n 1, 1) := by decide +kernel
theorem d_Tr_tell_118 : decode m_Tr_tell.2.1 118 = .ok (.iaload, 1) := by decide +kernel
theorem d_Tr_tell_119 : decode m_Tr_tell.2.1 119 = .ok (.ireturn, 1) := by decide +kernel
theorem d_Tr_isCut_0 : decode m_Tr_isCut.2.1 0 = .ok (.aload_n 0, 1) := by decide +kernel
theorem d_Tr_isCut_1 : decode m_Tr_isCut.2.1 1 = .ok (.getfield 9, 3) := by decide +kernel
theorem d_Tr_isCut_4 : decode m_Tr_isCut.2.1 4 = .ok (.iload_n 1, 1) := by decide +kernel
theorem d_Tr_isCut_5 : decode m_Tr_isCut.2.1 5 = .ok (.iaload, 1) := by decide +kernel
theorem d_Tr_isCut_6 : decode m_Tr_isCut.2.1 6 = .ok (.ifCond .eq 13, 3) := by decide +kernel
theorem d_Tr_isCut_9 : decode m_Tr_isCut.2.1 9 = .ok (.aload_n 0, 1) := by decide +kernel
theorem d_Tr_isCut_10 : decode m_Tr_isCut.2.1 10 = .ok (.getfield 9, 3) := by decide +kernel
theorem d_Tr_isCut_13 : decode m_Tr_isCut.2.1 13 = .ok (.iload_n 1, 1) := by decide +kernel
theorem d_Tr_isCut_14 : decode m_Tr_isCut.2.1 14 = .ok (.iaload, 1) := by decide +kernel
theorem d_Tr_isCut_15 : decode m_Tr_isCut.2.1 15 = .ok (.iconst 1, 1) := by decide +kernel
theorem d_Tr_isCut_16 : decode m_Tr_isCut.2.1 16 = .ok (.if_icmp .ne 7, 3) := by decide +kernel
theorem d_Tr_isCut_19 : decode m_Tr_isCut.2.1 19 = .ok (.iconst 1, 1) := by decide +kernel
theorem d_Tr_isCut_20 : decode m_Tr_isCut.2.1 20 = .ok (.goto 4, 3) := by decide +kernel
theorem d_Tr_isCut_23 : decode m_Tr_isCut.2.1 23 = .ok (.iconst 0, 1) := by decide +kernel
theorem d_Tr_isCut_24 : decode m_Tr_isCut.2.1 24 = .ok (.ireturn, 1) := by decide +kernel
theorem d_Lw_nodes_0 : decode m_Lw_nodes.2.1 0 = .ok (.aload_n 2, 1) := by decide +kernel
theorem d_Lw_nodes_1 : decode m_Lw_nodes.2.1 1 = .ok (.iconst 0, 1) := by decide +kernel
theorem d_Lw_nodes_2 : decode m_Lw_nodes.2.1 2 = .ok (.aload_n 0, 1) := by decide +kernel
theorem d_Lw_nodes_3 : decode m_Lw_nodes.2.1 3 = .ok (.iload_n 1, 1) := by decide +kernel
theorem d_Lw_nodes_4 : decode m_Lw_nodes.2.1 4 = .ok (.invokevirtual 41, 3) := by decide +kernel
theorem d_Lw_nodes_7 : decode m_Lw_nodes.2.1 7 = .ok (.i2l, 1) := by decide +kernel
theorem d_Lw_nodes_8 : decode m_Lw_nodes.2.1 8 = .ok (.lastore, 1) := by decide +kernel
theorem d_Lw_nodes_9 : decode m_Lw_nodes.2.1 9 = .ok (.goto 9, 3) := by decide +kernel
theorem d_Lw_nodes_12 : decode m_Lw_nodes.2.1 12 = .ok (.astore_n 3, 1) := by decide +kernel
theorem d_Lw_nodes_13 : decode m_Lw_nodes.2.1 13 = .ok (.iconst 1, 1) := by decide +kernel
theorem d_Lw_nodes_14 : decode m_Lw_nodes.2.1 14 = .ok (.ireturn, 1) := by decide +kernel
theorem d_Lw_nodes_15 : decode m_Lw_nodes.2.1 15 = .ok (.astore_n 3, 1) := by decide +kernel
theorem d_Lw_nodes_16 : decode m_Lw_nodes.2.1 16 = .ok (.iconst 2, 1) := by decide +kernel
theorem d_Lw_nodes_17 : decode m_Lw_nodes.2.1 17 = .ok (.ireturn, 1) := by decide +kernel
theorem d_Lw_nodes_18 : decode m_Lw_nodes.2.1 18 = .ok (.iconst 0, 1) := by decide +kernel
theorem d_Lw_nodes_19 : decode m_Lw_nodes.2.1 19 = .ok (.ireturn, 1) := by decide +kernel
theorem d_Ha_nodes_0 : decode m_Ha_nodes.2.1 0 = .ok (.aload_n 0, 1) := by decide +kernel
theorem d_Ha_nodes_1 : decode m_Ha_nodes.2.1 1 = .ok (.iload_n 1, 1) := by decide +kernel
theorem d_Ha_nodes_2 : decode m_Ha_nodes.2.1 2 = .ok (.invokevirtual 154, 3) := by decide +kernel
theorem d_Ha_nodes_5 : decode m_Ha_nodes.2.1 5 = .ok (.getfield 104, 3) := by decide +kernel
theorem d_Ha_nodes_8 : decode m_Ha_nodes.2.1 8 = .ok (.getfield 167, 3) := by decide +kernel
theorem d_Ha_nodes_11 : decode m_Ha_nodes.2.1 11 = .ok (.ireturn, 1) := by decide +kernel
theorem d_Lw_score_0 : decode m_Lw_score.2.1 0 = .ok (.aload_n 2, 1) := by decide +kernel
theorem d_Lw_score_1 : decode m_Lw_score.2.1 1 = .ok (.iconst 0, 1) := by decide +kernel
theorem d_Lw_score_2 : decode m_Lw_score.2.1 2 = .ok (.aload_n 0, 1) := by decide +kernel
theorem d_Lw_score_3 : decode m_Lw_score.2.1 3 = .ok (.iload_n 1, 1) := by decide +kernel
theorem d_Lw_score_4 : decode m_Lw_score.2.1 4 = .ok (.invokevirtual 44, 3) := by decide +kernel
theorem d_Lw_score_7 : decode m_Lw_score.2.1 7 = .ok (.i2l, 1) := by decide +kernel
theorem d_Lw_score_8 : decode m_Lw_score.2.1 8 = .ok (.lastore, 1) := by decide +kernel
theorem d_Lw_score_9 : decode m_Lw_score.2.1 9 = .ok (.goto 9, 3) := by decide +kernel
theorem d_Lw_score_12 : decode m_Lw_score.2.1 12 = .ok (.astore_n 3, 1) := by decide +kernel
theorem d_Lw_score_13 : decode m_Lw_score.2.1 13 = .ok (.iconst 1, 1) := by decide +kernel
theorem d_Lw_score_14 : decode m_Lw_score.2.1 14 = .ok (.ireturn, 1) := by decide +kernel
theorem d_Lw_score_15 : decode m_Lw_score.2.1 15 = .ok (.astore_n 3, 1) := by decide +kernel
theorem d_Lw_score_16 : decode m_Lw_score.2.1 16 = .ok (.iconst 2, 1) := by decide +kernel
theorem d_Lw_score_17 : decode m_Lw_score.2.1 17 = .ok (.ireturn, 1) := by decide +kernel
theorem d_Lw_score_18 : decode m_Lw_score.2.1 18 = .ok (.iconst 0, 1) := by decide +kernel
theorem d_Lw_score_19 : decode m_Lw_score.2.1 19 = .ok (.ireturn, 1) := by decide +kernel
theorem d_Ha_score_0 : decode m_Ha_score.2.1 0 = .ok (.aload_n 0, 1) := by decide +kernel
theorem d_Ha_score_1 : decode m_Ha_score.2.1 1 = .ok (.iload_n 1, 1) := by decide +kernel
theorem d_Ha_score_2 : decode m_Ha_score.2.1 2 = .ok (.invokevirtual 154, 3) := by decide +kernel
theorem d_Ha_score_5 : decode m_Ha_score.2.1 5 = .ok (.astore_n 2, 1) := by decide +kernel
theorem d_Ha_score_6 : decode m_Ha_score.2.1 6 = .ok (.aload_n 2, 1) := by decide +kernel
theorem d_Ha_score_7 : decode m_Ha_score.2.1 7 = .ok (.getfield 104, 3) := by decide +kernel
theorem d_Ha_score_10 : decode m_Ha_score.2.1 10 = .ok (.astore_n 3, 1) := by decide +kernel
theorem d_Ha_score_11 : decode m_Ha_score.2.1 11 = .ok (.aload_n 3, 1) := by decide +kernel
theorem d_Ha_score_12 : decode m_Ha_score.2.1 12 = .ok (.invokevirtual 168, 3) := by decide +kernel
theorem d_Ha_score_15 : decode m_Ha_score.2.1 15 = .ok (.istore 4, 2) := by decide +kernel
theorem d_Ha_score_17 : decode m_Ha_score.2.1 17 = .ok (.aload_n 3, 1) := by decide +kernel
theorem d_Ha_score_18 : decode m_Ha_score.2.1 18 = .ok (.iload 4, 2) := by decide +kernel
theorem d_Ha_score_20 : decode m_Ha_score.2.1 20 = .ok (.invokevirtual 157, 3) := by decide +kernel
theorem d_Ha_score_23 : decode m_Ha_score.2.1 23 = .ok (.ifCond .ne 5, 3) := by decide +kernel
theorem d_Ha_score_26 : decode m_Ha_score.2.1 26 = .ok (.iconst (-1), 1) := by decide +kernel
theorem d_Ha_score_27 : decode m_Ha_score.2.1 27 = .ok (.ireturn, 1) := by decide +kernel
theorem d_Ha_score_28 : decode m_Ha_score.2.1 28 = .ok (.aload_n 3, 1) := by decide +kernel
theorem d_Ha_score_29 : decode m_Ha_score.2.1 29 = .ok (.iload 4, 2) := by decide +kernel
theorem d_Ha_score_31 : decode m_Ha_score.2.1 31 = .ok (.invokevirtual 172, 3) := by decide +kernel
theorem d_Ha_score_34 : decode m_Ha_score.2.1 34 = .ok (.ifCond .eq 35, 3) := by decide +kernel
theorem d_Ha_score_37 : decode m_Ha_score.2.1 37 = .ok (.aload_n 3, 1) := by decide +kernel
theorem d_Ha_score_38 : decode m_Ha_score.2.1 38 = .ok (.getfield 175, 3) := by decide +kernel
theorem d_Ha_score_41 : decode m_Ha_score.2.1 41 = .ok (.iload 4, 2) := by decide +kernel
theorem d_Ha_score_43 : decode m_Ha_score.2.1 43 = .ok (.iconst 2, 1) := by decide +kernel
theorem d_Ha_score_44 : decode m_Ha_score.2.1 44 = .ok (.iastore, 1) := by decide +kernel
theorem d_Ha_score_45 : decode m_Ha_score.2.1 45 = .ok (.aload_n 0, 1) := by decide +kernel
theorem d_Ha_score_46 : decode m_Ha_score.2.1 46 = .ok (.aload_n 2, 1) := by decide +kernel
theorem d_Ha_score_47 : decode m_Ha_score.2.1 47 = .ok (.iload 4, 2) := by decide +kernel
theorem d_Ha_score_49 : decode m_Ha_score.2.1 49 = .ok (.iconst 1, 1) := by decide +kernel
theorem d_Ha_score_50 : decode m_Ha_score.2.1 50 = .ok (.iadd, 1) := by decide +kernel
theorem d_Ha_score_51 : decode m_Ha_score.2.1 51 = .ok (.invokevirtual 179, 3) := by decide +kernel
theorem d_Ha_score_54 : decode m_Ha_score.2.1 54 = .ok (.aload_n 0, 1) := by decide +kernel
theorem d_Ha_score_55 : decode m_Ha_score.2.1 55 = .ok (.aload_n 2, 1) := by decide +kernel
theorem d_Ha_score_56 : decode m_Ha_score.2.1 56 = .ok (.aload_n 3, 1) := by decide +kernel
theorem d_Ha_score_57 : decode m_Ha_score.2.1 57 = .ok (.getfield 183, 3) := by decide +kernel
theorem d_Ha_score_60 : decode m_Ha_score.2.1 60 = .ok (.iload 4, 2) := by decide +kernel
theorem d_Ha_score_62 : decode m_Ha_score.2.1 62 = .ok (.iaload, 1) := by decide +kernel
theorem d_Ha_score_63 : decode m_Ha_score.2.1 63 = .ok (.invokevirtual 179, 3) := by decide +kernel
theorem d_Ha_score_66 : decode m_Ha_score.2.1 66 = .ok (.goto 10, 3) := by decide +kernel
theorem d_Ha_score_69 : decode m_Ha_score.2.1 69 = .ok (.aload_n 0, 1) := by decide +kernel
theorem d_Ha_score_70 : decode m_Ha_score.2.1 70 = .ok (.aload_n 2, 1) := by decide +kernel
theorem d_Ha_score_71 : decode m_Ha_score.2.1 71 = .ok (.iload 4, 2) := by decide +kernel
theorem d_Ha_score_73 : decode m_Ha_score.2.1 73 = .ok (.invokevirtual 179, 3) := by decide +kernel
theorem d_Ha_score_76 : decode m_Ha_score.2.1 76 = .ok (.aload_n 0, 1) := by decide +kernel
theorem d_Ha_score_77 : decode m_Ha_score.2.1 77 = .ok (.aload_n 2, 1) := by decide +kernel
theorem d_Ha_score_78 : decode m_Ha_score.2.1 78 = .ok (.invokevirtual 186, 3) := by decide +kernel
theorem d_Ha_score_81 : decode m_Ha_score.2.1 81 = .ok (.iload 4, 2) := by decide +kernel
theorem d_Ha_score_83 : decode m_Ha_score.2.1 83 = .ok (.ireturn, 1) := by decide +kernel
theorem d_Tr_firstWaiting_0 : decode m_Tr_firstWaiting.2.1 0 = .ok (.iconst 0, 1) := by decide +kernel
theorem d_Tr_firstWaiting_1 : decode m_Tr_firstWaiting.2.1 1 = .ok (.istore_n 1, 1) := by decide +kernel
theorem d_Tr_firstWaiting_2 : decode m_Tr_firstWaiting.2.1 2 = .ok (.iload_n 1, 1) := by decide +kernel
theorem d_Tr_firstWaiting_3 : decode m_Tr_firstWaiting.2.1 3 = .ok (.aload_n 0, 1) := by decide +kernel
theorem d_Tr_firstWaiting_4 : decode m_Tr_firstWaiting.2.1 4 = .ok (.getfield 36, 3) := by decide +kernel
theorem d_Tr_firstWaiting_7 : decode m_Tr_firstWaiting.2.1 7 = .ok (.if_icmp .ge 21, 3) := by decide +kernel
theorem d_Tr_firstWaiting_10 : decode m_Tr_firstWaiting.2.1 10 = .ok (.aload_n 0, 1) := by decide +kernel
theorem d_Tr_firstWaiting_11 : decode m_Tr_firstWaiting.2.1 11 = .ok (.getfield 33, 3) := by decide +kernel
theorem d_Tr_firstWaiting_14 : decode m_Tr_firstWaiting.2.1 14 = .ok (.iload_n 1, 1) := by decide +kernel
theorem d_Tr_firstWaiting_15 : decode m_Tr_firstWaiting.2.1 15 = .ok (.iaload, 1) := by decide +kernel
theorem d_Tr_firstWaiting_16 : decode m_Tr_firstWaiting.2.1 16 = .ok (.iconst 1, 1) := by decide +kernel
theorem d_Tr_firstWaiting_17 : decode m_Tr_firstWaiting.2.1 17 = .ok (.if_icmp .ne 5, 3) := by decide +kernel
theorem d_Tr_firstWaiting_20 : decode m_Tr_firstWaiting.2.1 20 = .ok (.iload_n 1, 1) := by decide +kernel
theorem d_Tr_firstWaiting_21 : decode m_Tr_firstWaiting.2.1 21 = .ok (.ireturn, 1) := by decide +kernel
theorem d_Tr_firstWaiting_22 : decode m_Tr_firstWaiting.2.1 22 = .ok (.iinc 1 1, 3) := by decide +kernel
theorem d_Tr_firstWaiting_25 : decode m_Tr_firstWaiting.2.1 25 = .ok (.goto (-23), 3) := by decide +kernel
theorem d_Tr_firstWaiting_28 : decode m_Tr_firstWaiting.2.1 28 = .ok (.iconst (-1), 1) := by decide +kernel
theorem d_Tr_firstWaiting_29 : decode m_Tr_firstWaiting.2.1 29 = .ok (.ireturn, 1) := by decide +kernel
theorem d_Ha_letWait_0 : decode m_Ha_letWait.2.1 0 = .ok (.aload_n 1, 1) := by decide +kernel
theorem d_Ha_letWait_1 : decode m_Ha_letWait.2.1 1 = .ok (.getfield 104, 3) := by decide +kernel
theorem d_Ha_letWait_4 : decode m_Ha_letWait.2.1 4 = .ok (.astore_n 3, 1) := by decide +kernel
theorem d_Ha_letWait_5 : decode m_Ha_letWait.2.1 5 = .ok (.aload_n 3, 1) := by decide +kernel
theorem d_Ha_letWait_6 : decode m_Ha_letWait.2.1 6 = .ok (.iload_n 2, 1) := by decide +kernel
theorem d_Ha_letWait_7 : decode m_Ha_letWait.2.1 7 = .ok (.invokevirtual 157, 3) := by decide +kernel
theorem d_Ha_letWait_10 : decode m_Ha_letWait.2.1 10 = .ok (.ifCond .ne 4, 3) := by decide +kernel
theorem d_Ha_letWait_13 : decode m_Ha_letWait.2.1 13 = .ok (.return_, 1) := by decide +kernel
theorem d_Ha_letWait_14 : decode m_Ha_letWait.2.1 14 = .ok (.aload_n 3, 1) := by decide +kernel
theorem d_Ha_letWait_15 : decode m_Ha_letWait.2.1 15 = .ok (.getfield 175, 3) := by decide +kernel
theorem d_Ha_letWait_18 : decode m_Ha_letWait.2.1 18 = .ok (.iload_n 2, 1) := by decide +kernel
theorem d_Ha_letWait_19 : decode m_Ha_letWait.2.1 19 = .ok (.aload_n 3, 1) := by decide +kernel
theorem d_Ha_letWait_20 : decode m_Ha_letWait.2.1 20 = .ok (.iload_n 2, 1) := by decide +kernel
theorem d_Ha_letWait_21 : decode m_Ha_letWait.2.1 21 = .ok (.invokevirtual 172, 3) := by decide +kernel
theorem d_Ha_letWait_24 : decode m_Ha_letWait.2.1 24 = .ok (.ifCond .eq 7, 3) := by decide +kernel
theorem d_Ha_letWait_27 : decode m_Ha_letWait.2.1 27 = .ok (.iconst 1, 1) := by decide +kernel
theorem d_Ha_letWait_28 : decode m_Ha_letWait.2.1 28 = .ok (.goto 4, 3) := by decide +kernel
theorem d_Ha_letWait_31 : decode m_Ha_letWait.2.1 31 = .ok (.iconst 2, 1) := by decide +kernel
theorem d_Ha_letWait_32 : decode m_Ha_letWait.2.1 32 = .ok (.iastore, 1) := by decide +kernel
theorem d_Ha_letWait_33 : decode m_Ha_letWait.2.1 33 = .ok (.aload_n 3, 1) := by decide +kernel
theorem d_Ha_letWait_34 : decode m_Ha_letWait.2.1 34 = .ok (.getfield 290, 3) := by decide +kernel
theorem d_Ha_letWait_37 : decode m_Ha_letWait.2.1 37 = .ok (.iload_n 2, 1) := by decide +kernel
theorem d_Ha_letWait_38 : decode m_Ha_letWait.2.1 38 = .ok (.iaload, 1) := by decide +kernel
theorem d_Ha_letWait_39 : decode m_Ha_letWait.2.1 39 = .ok (.iconst 2, 1) := by decide +kernel
theorem d_Ha_letWait_40 : decode m_Ha_letWait.2.1 40 = .ok (.if_icmp .ne 33, 3) := by decide +kernel
theorem d_Ha_letWait_43 : decode m_Ha_letWait.2.1 43 = .ok (.aload_n 0, 1) := by decide +kernel
theorem d_Ha_letWait_44 : decode m_Ha_letWait.2.1 44 = .ok (.getfield 18, 3) := by decide +kernel
theorem d_Ha_letWait_47 : decode m_Ha_letWait.2.1 47 = .ok (.aload_n 3, 1) := by decide +kernel
theorem d_Ha_letWait_48 : decode m_Ha_letWait.2.1 48 = .ok (.getfield 293, 3) := by decide +kernel
theorem d_Ha_letWait_51 : decode m_Ha_letWait.2.1 51 = .ok (.iload_n 2, 1) := by decide +kernel
theorem d_Ha_letWait_52 : decode m_Ha_letWait.2.1 52 = .ok (.iaload, 1) := by decide +kernel
theorem d_Ha_letWait_53 : decode m_Ha_letWait.2.1 53 = .ok (.invokevirtual 296, 3) := by decide +kernel
theorem d_Ha_letWait_56 : decode m_Ha_letWait.2.1 56 = .ok (.aload_n 0, 1) := by decide +kernel
theorem d_Ha_letWait_57 : decode m_Ha_letWait.2.1 57 = .ok (.dup, 1) := by decide +kernel
theorem d_Ha_letWait_58 : decode m_Ha_letWait.2.1 58 = .ok (.getfield 249, 3) := by decide +kernel
theorem d_Ha_letWait_61 : decode m_Ha_letWait.2.1 61 = .ok (.aload_n 3, 1) := by decide +kernel
theorem d_Ha_letWait_62 : decode m_Ha_letWait.2.1 62 = .ok (.iload_n 2, 1) := by decide +kernel
theorem d_Ha_letWait_63 : decode m_Ha_letWait.2.1 63 = .ok (.invokevirtual 193, 3) := by decide +kernel
theorem d_Ha_letWait_66 : decode m_Ha_letWait.2.1 66 = .ok (.ladd, 1) := by decide +kernel
theorem d_Ha_letWait_67 : decode m_Ha_letWait.2.1 67 = .ok (.putfield 249, 3) := by decide +kernel
theorem d_Ha_letWait_70 : decode m_Ha_letWait.2.1 70 = .ok (.goto 19, 3) := by decide +kernel
theorem d_Ha_letWait_73 : decode m_Ha_letWait.2.1 73 = .ok (.aload_n 3, 1) := by decide +kernel
theorem d_Ha_letWait_74 : decode m_Ha_letWait.2.1 74 = .ok (.getfield 290, 3) := by decide +kernel
theorem d_Ha_letWait_77 : decode m_Ha_letWait.2.1 77 = .ok (.iload_n 2, 1) := by decide +kernel
theorem d_Ha_letWait_78 : decode m_Ha_letWait.2.1 78 = .ok (.iaload, 1) := by decide +kernel
theorem d_Ha_letWait_79 : decode m_Ha_letWait.2.1 79 = .ok (.iconst 3, 1) := by decide +kernel
theorem d_Ha_letWait_80 : decode m_Ha_letWait.2.1 80 = .ok (.if_icmp .ne 9, 3) := by decide +kernel
theorem d_Ha_letWait_83 : decode m_Ha_letWait.2.1 83 = .ok (.aload_n 0, 1) := by decide +kernel
theorem d_Ha_letWait_84 : decode m_Ha_letWait.2.1 84 = .ok (.aload_n 1, 1) := by decide +kernel
theorem d_Ha_letWait_85 : decode m_Ha_letWait.2.1 85 = .ok (.iload_n 2, 1) := by decide +kernel
theorem d_Ha_letWait_86 : decode m_Ha_letWait.2.1 86 = .ok (.invokevirtual 299, 3) := by decide +kernel
theorem d_Ha_letWait_89 : decode m_Ha_letWait.2.1 89 = .ok (.return_, 1) := by decide +kernel
theorem d_Bk_finish_0 : decode m_Bk_finish.2.1 0 = .ok (.aload_n 0, 1) := by decide +kernel
theorem d_Bk_finish_1 : decode m_Bk_finish.2.1 1 = .ok (.iload_n 1, 1) := by decide +kernel
theorem d_Bk_finish_2 : decode m_Bk_finish.2.1 2 = .ok (.invokevirtual 29, 3) := by decide +kernel
theorem d_Bk_finish_5 : decode m_Bk_finish.2.1 5 = .ok (.astore_n 2, 1) := by decide +kernel
theorem d_Bk_finish_6 : decode m_Bk_finish.2.1 6 = .ok (.aload_n 2, 1) := by decide +kernel
theorem d_Bk_finish_7 : decode m_Bk_finish.2.1 7 = .ok (.ifnull 23, 3) := by decide +kernel
theorem d_Bk_finish_10 : decode m_Bk_finish.2.1 10 = .ok (.aload_n 2, 1) := by decide +kernel
theorem d_Bk_finish_11 : decode m_Bk_finish.2.1 11 = .ok (.dup, 1) := by decide +kernel
theorem d_Bk_finish_12 : decode m_Bk_finish.2.1 12 = .ok (.getfield 36, 3) := by decide +kernel
theorem d_Bk_finish_15 : decode m_Bk_finish.2.1 15 = .ok (.iconst 1, 1) := by decide +kernel
theorem d_Bk_finish_16 : decode m_Bk_finish.2.1 16 = .ok (.isub, 1) := by decide +kernel
theorem d_Bk_finish_17 : decode m_Bk_finish.2.1 17 = .ok (.putfield 36, 3) := by decide +kernel
theorem d_Bk_finish_20 : decode m_Bk_finish.2.1 20 = .ok (.aload_n 2, 1) := by decide +kernel
theorem d_Bk_finish_21 : decode m_Bk_finish.2.1 21 = .ok (.dup, 1) := by decide +kernel
theorem d_Bk_finish_22 : decode m_Bk_finish.2.1 22 = .ok (.getfield 39, 3) := by decide +kernel
theorem d_Bk_finish_25 : decode m_Bk_finish.2.1 25 = .ok (.iconst 1, 1) := by decide +kernel
theorem d_Bk_finish_26 : decode m_Bk_finish.2.1 26 = .ok (.iadd, 1) := by decide +kernel
theorem d_Bk_finish_27 : decode m_Bk_finish.2.1 27 = .ok (.putfield 39, 3) := by decide +kernel
theorem d_Bk_finish_30 : decode m_Bk_finish.2.1 30 = .ok (.return_, 1) := by decide +kernel
theorem d_Ha_putAway_0 : decode m_Ha_putAway.2.1 0 = .ok (.aload_n 1, 1) := by decide +kernel
theorem d_Ha_putAway_1 : decode m_Ha_putAway.2.1 1 = .ok (.getfield 104, 3) := by decide +kernel
theorem d_Ha_putAway_4 : decode m_Ha_putAway.2.1 4 = .ok (.astore_n 3, 1) := by decide +kernel
theorem d_Ha_putAway_5 : decode m_Ha_putAway.2.1 5 = .ok (.aload_n 3, 1) := by decide +kernel
theorem d_Ha_putAway_6 : decode m_Ha_putAway.2.1 6 = .ok (.getfield 302, 3) := by decide +kernel
theorem d_Ha_putAway_9 : decode m_Ha_putAway.2.1 9 = .ok (.iload_n 2, 1) := by decide +kernel
theorem d_Ha_putAway_10 : decode m_Ha_putAway.2.1 10 = .ok (.iaload, 1) := by decide +kernel
theorem d_Ha_putAway_11 : decode m_Ha_putAway.2.1 11 = .ok (.sipush 300, 3) := by decide +kernel
theorem d_Ha_putAway_14 : decode m_Ha_putAway.2.1 14 = .ok (.if_icmp .lt 19, 3) := by decide +kernel
theorem d_Ha_putAway_17 : decode m_Ha_putAway.2.1 17 = .ok (.aload_n 3, 1) := by decide +kernel
theorem d_Ha_putAway_18 : decode m_Ha_putAway.2.1 18 = .ok (.getfield 304, 3) := by decide +kernel
theorem d_Ha_putAway_21 : decode m_Ha_putAway.2.1 21 = .ok (.iload_n 2, 1) := by decide +kernel
theorem d_Ha_putAway_22 : decode m_Ha_putAway.2.1 22 = .ok (.iaload, 1) := by decide +kernel
theorem d_Ha_putAway_23 : decode m_Ha_putAway.2.1 23 = .ok (.sipush 300, 3) := by decide +kernel
theorem d_Ha_putAway_26 : decode m_Ha_putAway.2.1 26 = .ok (.if_icmp .lt 7, 3) := by decide +kernel
theorem d_Ha_putAway_29 : decode m_Ha_putAway.2.1 29 = .ok (.iconst 1, 1) := by decide +kernel
theorem d_Ha_putAway_30 : decode m_Ha_putAway.2.1 30 = .ok (.goto 4, 3) := by decide +kernel
theorem d_Ha_putAway_33 : decode m_Ha_putAway.2.1 33 = .ok (.iconst 0, 1) := by decide +kernel
theorem d_Ha_putAway_34 : decode m_Ha_putAway.2.1 34 = .ok (.istore 4, 2) := by decide +kernel
theorem d_Ha_putAway_36 : decode m_Ha_putAway.2.1 36 = .ok (.iload 4, 2) := by decide +kernel
theorem d_Ha_putAway_38 : decode m_Ha_putAway.2.1 38 = .ok (.ifCond .eq 53, 3) := by decide +kernel
theorem d_Ha_putAway_41 : decode m_Ha_putAway.2.1 41 = .ok (.aload_n 0, 1) := by decide +kernel
theorem d_Ha_putAway_42 : decode m_Ha_putAway.2.1 42 = .ok (.getfield 25, 3) := by decide +kernel
theorem d_Ha_putAway_45 : decode m_Ha_putAway.2.1 45 = .ok (.getfield 263, 3) := by decide +kernel
theorem d_Ha_putAway_48 : decode m_Ha_putAway.2.1 48 = .ok (.bipush 10, 2) := by decide +kernel
theorem d_Ha_putAway_50 : decode m_Ha_putAway.2.1 50 = .ok (.if_icmp .ge 41, 3) := by decide +kernel
theorem d_Ha_putAway_53 : decode m_Ha_putAway.2.1 53 = .ok (.aload_n 0, 1) := by decide +kernel
theorem d_Ha_putAway_54 : decode m_Ha_putAway.2.1 54 = .ok (.getfield 25, 3) := by decide +kernel
theorem d_Ha_putAway_57 : decode m_Ha_putAway.2.1 57 = .ok (.aload_n 1, 1) := by decide +kernel
theorem d_Ha_putAway_58 : decode m_Ha_putAway.2.1 58 = .ok (.getfield 67, 3) := by decide +kernel
theorem d_Ha_putAway_61 : decode m_Ha_putAway.2.1 61 = .ok (.aload_n 3, 1) := by decide +kernel
theorem d_Ha_putAway_62 : decode m_Ha_putAway.2.1 62 = .ok (.getfield 306, 3) := by decide +kernel
theorem d_Ha_putAway_65 : decode m_Ha_putAway.2.1 65 = .ok (.iload_n 2, 1) := by decide +kernel
theorem d_Ha_putAway_66 : decode m_Ha_putAway.2.1 66 = .ok (.iaload, 1) := by decide +kernel
theorem d_Ha_putAway_67 : decode m_Ha_putAway.2.1 67 = .ok (.aload_n 3, 1) := by decide +kernel
theorem d_Ha_putAway_68 : decode m_Ha_putAway.2.1 68 = .ok (.getfield 309, 3) := by decide +kernel
theorem d_Ha_putAway_71 : decode m_Ha_putAway.2.1 71 = .ok (.iload_n 2, 1) := by decide +kernel
theorem d_Ha_putAway_72 : decode m_Ha_putAway.2.1 72 = .ok (.iaload, 1) := by decide +kernel
theorem d_Ha_putAway_73 : decode m_Ha_putAway.2.1 73 = .ok (.aload_n 3, 1) := by decide +kernel
theorem d_Ha_putAway_74 : decode m_Ha_putAway.2.1 74 = .ok (.getfield 302, 3) := by decide +kernel
theorem d_Ha_putAway_77 : decode m_Ha_putAway.2.1 77 = .ok (.iload_n 2, 1) := by decide +kernel
theorem d_Ha_putAway_78 : decode m_Ha_putAway.2.1 78 = .ok (.iaload, 1) := by decide +kernel
theorem d_Ha_putAway_79 : decode m_Ha_putAway.2.1 79 = .ok (.aload_n 3, 1) := by decide +kernel
theorem d_Ha_putAway_80 : decode m_Ha_putAway.2.1 80 = .ok (.getfield 304, 3) := by decide +kernel
theorem d_Ha_putAway_83 : decode m_Ha_putAway.2.1 83 = .ok (.iload_n 2, 1) := by decide +kernel
theorem d_Ha_putAway_84 : decode m_Ha_putAway.2.1 84 = .ok (.iaload, 1) := by decide +kernel
theorem d_Ha_putAway_85 : decode m_Ha_putAway.2.1 85 = .ok (.invokevirtual 312, 3) := by decide +kernel
theorem d_Ha_putAway_88 : decode m_Ha_putAway.2.1 88 = .ok (.goto 17, 3) := by decide +kernel
theorem d_Ha_putAway_91 : decode m_Ha_putAway.2.1 91 = .ok (.aload_n 0, 1) := by decide +kernel
theorem d_Ha_putAway_92 : decode m_Ha_putAway.2.1 92 = .ok (.dup, 1) := by decide +kernel
theorem d_Ha_putAway_93 : decode m_Ha_putAway.2.1 93 = .ok (.getfield 253, 3) := by decide +kernel
theorem d_Ha_putAway_96 : decode m_Ha_putAway.2.1 96 = .ok (.aload_n 3, 1) := by decide +kernel
theorem d_Ha_putAway_97 : decode m_Ha_putAway.2.1 97 = .ok (.iload_n 2, 1) := by decide +kernel
theorem d_Ha_putAway_98 : decode m_Ha_putAway.2.1 98 = .ok (.invokevirtual 193, 3) := by decide +kernel
theorem d_Ha_putAway_101 : decode m_Ha_putAway.2.1 101 = .ok (.ladd, 1) := by decide +kernel
theorem d_Ha_putAway_102 : decode m_Ha_putAway.2.1 102 = .ok (.putfield 253, 3) := by decide +kernel
theorem d_Ha_putAway_105 : decode m_Ha_putAway.2.1 105 = .ok (.return_, 1) := by decide +kernel
theorem d_Rk_addPart_0 : decode m_Rk_addPart.2.1 0 = .ok (.aload_n 0, 1) := by decide +kernel
theorem d_Rk_addPart_1 : decode m_Rk_addPart.2.1 1 = .ok (.getfield 18, 3) := by decide +kernel
theorem d_Rk_addPart_4 : decode m_Rk_addPart.2.1 4 = .ok (.bipush 10, 2) := by decide +kernel
theorem d_Rk_addPart_6 : decode m_Rk_addPart.2.1 6 = .ok (.if_icmp .ge 32, 3) := by decide +kernel
theorem d_Rk_addPart_9 : decode m_Rk_addPart.2.1 9 = .ok (.aload_n 0, 1) := by decide +kernel
theorem d_Rk_addPart_10 : decode m_Rk_addPart.2.1 10 = .ok (.getfield 11, 3) := by decide +kernel
theorem d_Rk_addPart_13 : decode m_Rk_addPart.2.1 13 = .ok (.aload_n 0, 1) := by decide +kernel
theorem d_Rk_addPart_14 : decode m_Rk_addPart.2.1 14 = .ok (.getfield 18, 3) := by decide +kernel
theorem d_Rk_addPart_17 : decode m_Rk_addPart.2.1 17 = .ok (.aaload, 1) := by decide +kernel
theorem d_Rk_addPart_18 : decode m_Rk_addPart.2.1 18 = .ok (.aload_n 1, 1) := by decide +kernel
theorem d_Rk_addPart_19 : decode m_Rk_addPart.2.1 19 = .ok (.iload_n 2, 1) := by decide +kernel
theorem d_Rk_addPart_20 : decode m_Rk_addPart.2.1 20 = .ok (.iload_n 3, 1) := by decide +kernel
theorem d_Rk_addPart_21 : decode m_Rk_addPart.2.1 21 = .ok (.iload 4, 2) := by decide +kernel
theorem d_Rk_addPart_23 : decode m_Rk_addPart.2.1 23 = .ok (.iload 5, 2) := by decide +kernel
theorem d_Rk_addPart_25 : decode m_Rk_addPart.2.1 25 = .ok (.invokevirtual 22, 3) := by decide +kernel
theorem d_Rk_addPart_28 : decode m_Rk_addPart.2.1 28 = .ok (.aload_n 0, 1) := by decide +kernel
theorem d_Rk_addPart_29 : decode m_Rk_addPart.2.1 29 = .ok (.dup, 1) := by decide +kernel
theorem d_Rk_addPart_30 : decode m_Rk_addPart.2.1 30 = .ok (.getfield 18, 3) := by decide +kernel
theorem d_Rk_addPart_33 : decode m_Rk_addPart.2.1 33 = .ok (.iconst 1, 1) := by decide +kernel
theorem d_Rk_addPart_34 : decode m_Rk_addPart.2.1 34 = .ok (.iadd, 1) := by decide +kernel
theorem d_Rk_addPart_35 : decode m_Rk_addPart.2.1 35 = .ok (.putfield 18, 3) := by decide +kernel
theorem d_Rk_addPart_38 : decode m_Rk_addPart.2.1 38 = .ok (.return_, 1) := by decide +kernel
theorem d_Gl_becomePart_0 : decode m_Gl_becomePart.2.1 0 = .ok (.aload_n 0, 1) := by decide +kernel
theorem d_Gl_becomePart_1 : decode m_Gl_becomePart.2.1 1 = .ok (.iload 4, 2) := by decide +kernel
theorem d_Gl_becomePart_3 : decode m_Gl_becomePart.2.1 3 = .ok (.iload 5, 2) := by decide +kernel
theorem d_Gl_becomePart_5 : decode m_Gl_becomePart.2.1 5 = .ok (.invokevirtual 34, 3) := by decide +kernel
theorem d_Gl_becomePart_8 : decode m_Gl_becomePart.2.1 8 = .ok (.iconst 0, 1) := by decide +kernel
theorem d_Gl_becomePart_9 : decode m_Gl_becomePart.2.1 9 = .ok (.istore 6, 2) := by decide +kernel
theorem d_Gl_becomePart_11 : decode m_Gl_becomePart.2.1 11 = .ok (.iload 6, 2) := by decide +kernel
theorem d_Gl_becomePart_13 : decode m_Gl_becomePart.2.1 13 = .ok (.aload_n 1, 1) := by decide +kernel
theorem d_Gl_becomePart_14 : decode m_Gl_becomePart.2.1 14 = .ok (.getfield 31, 3) := by decide +kernel
theorem d_Gl_becomePart_17 : decode m_Gl_becomePart.2.1 17 = .ok (.if_icmp .ge 119, 3) := by decide +kernel
theorem d_Gl_becomePart_20 : decode m_Gl_becomePart.2.1 20 = .ok (.iload_n 2, 1) := by decide +kernel
theorem d_Gl_becomePart_21 : decode m_Gl_becomePart.2.1 21 = .ok (.aload_n 1, 1) := by decide +kernel
theorem d_Gl_becomePart_22 : decode m_Gl_becomePart.2.1 22 = .ok (.getfield 9, 3) := by decide +kernel
theorem d_Gl_becomePart_25 : decode m_Gl_becomePart.2.1 25 = .ok (.iload 6, 2) := by decide +kernel
theorem d_Gl_becomePart_27 : decode m_Gl_becomePart.2.1 27 = .ok (.iaload, 1) := by decide +kernel
theorem d_Gl_becomePart_28 : decode m_Gl_becomePart.2.1 28 = .ok (.invokestatic 38, 3) := by decide +kernel
theorem d_Gl_becomePart_31 : decode m_Gl_becomePart.2.1 31 = .ok (.istore 7, 2) := by decide +kernel
theorem d_Gl_becomePart_33 : decode m_Gl_becomePart.2.1 33 = .ok (.iload_n 2, 1) := by decide +kernel
theorem d_Gl_becomePart_34 : decode m_Gl_becomePart.2.1 34 = .ok (.iload 4, 2) := by decide +kernel
theorem d_Gl_becomePart_36 : decode m_Gl_becomePart.2.1 36 = .ok (.iadd, 1) := by decide +kernel
theorem d_Gl_becomePart_37 : decode m_Gl_becomePart.2.1 37 = .ok (.aload_n 1, 1) := by decide +kernel
theorem d_Gl_becomePart_38 : decode m_Gl_becomePart.2.1 38 = .ok (.getfield 9, 3) := by decide +kernel
theorem d_Gl_becomePart_41 : decode m_Gl_becomePart.2.1 41 = .ok (.iload 6, 2) := by decide +kernel
theorem d_Gl_becomePart_43 : decode m_Gl_becomePart.2.1 43 = .ok (.iaload, 1) := by decide +kernel
theorem d_Gl_becomePart_44 : decode m_Gl_becomePart.2.1 44 = .ok (.aload_n 1, 1) := by decide +kernel
theorem d_Gl_becomePart_45 : decode m_Gl_becomePart.2.1 45 = .ok (.getfield 18, 3) := by decide +kernel
theorem d_Gl_becomePart_48 : decode m_Gl_becomePart.2.1 48 = .ok (.iload 6, 2) := by decide +kernel
theorem d_Gl_becomePart_50 : decode m_Gl_becomePart.2.1 50 = .ok (.iaload, 1) := by decide +kernel
theorem d_Gl_becomePart_51 : decode m_Gl_becomePart.2.1 51 = .ok (.iadd, 1) := by decide +kernel
theorem d_Gl_becomePart_52 : decode m_Gl_becomePart.2.1 52 = .ok (.invokestatic 44, 3) := by decide +kernel
theorem d_Gl_becomePart_55 : decode m_Gl_becomePart.2.1 55 = .ok (.istore 8, 2) := by decide +kernel
theorem d_Gl_becomePart_57 : decode m_Gl_becomePart.2.1 57 = .ok (.iload_n 3, 1) := by decide +kernel
theorem d_Gl_becomePart_58 : decode m_Gl_becomePart.2.1 58 = .ok (.aload_n 1, 1) := by decide +kernel
theorem d_Gl_becomePart_59 : decode m_Gl_becomePart.2.1 59 = .ok (.getfield 15, 3) := by decide +kernel
theorem d_Gl_becomePart_62 : decode m_Gl_becomePart.2.1 62 = .ok (.iload 6, 2) := by decide +kernel
theorem d_Gl_becomePart_64 : decode m_Gl_becomePart.2.1 64 = .ok (.iaload, 1) := by decide +kernel
theorem d_Gl_becomePart_65 : decode m_Gl_becomePart.2.1 65 = .ok (.invokestatic 38, 3) := by decide +kernel
theorem d_Gl_becomePart_68 : decode m_Gl_becomePart.2.1 68 = .ok (.istore 9, 2) := by decide +kernel
theorem d_Gl_becomePart_70 : decode m_Gl_becomePart.2.1 70 = .ok (.iload_n 3, 1) := by decide +kernel
theorem d_Gl_becomePart_71 : decode m_Gl_becomePart.2.1 71 = .ok (.iload 5, 2) := by decide +kernel
theorem d_Gl_becomePart_73 : decode m_Gl_becomePart.2.1 73 = .ok (.iadd, 1) := by decide +kernel
theorem d_Gl_becomePart_74 : decode m_Gl_becomePart.2.1 74 = .ok (.aload_n 1, 1) := by decide +kernel
theorem d_Gl_becomePart_75 : decode m_Gl_becomePart.2.1 75 = .ok (.getfield 15, 3) := by decide +kernel
theorem d_Gl_becomePart_78 : decode m_Gl_becomePart.2.1 78 = .ok (.iload 6, 2) := by decide +kernel
theorem d_Gl_becomePart_80 : decode m_Gl_becomePart.2.1 80 = .ok (.iaload, 1) := by decide +kernel
theorem d_Gl_becomePart_81 : decode m_Gl_becomePart.2.1 81 = .ok (.aload_n 1, 1) := by decide +kernel
theorem d_Gl_becomePart_82 : decode m_Gl_becomePart.2.1 82 = .ok (.getfield 21, 3) := by decide +kernel
theorem d_Gl_becomePart_85 : decode m_Gl_becomePart.2.1 85 = .ok (.iload 6, 2) := by decide +kernel
theorem d_Gl_becomePart_87 : decode m_Gl_becomePart.2.1 87 = .ok (.iaload, 1) := by decide +kernel
theorem d_Gl_becomePart_88 : decode m_Gl_becomePart.2.1 88 = .ok (.iadd, 1) := by decide +kernel
theorem d_Gl_becomePart_89 : decode m_Gl_becomePart.2.1 89 = .ok (.invokestatic 44, 3) := by decide +kernel
theorem d_Gl_becomePart_92 : decode m_Gl_becomePart.2.1 92 = .ok (.istore 10, 2) := by decide +kernel
theorem d_Gl_becomePart_94 : decode m_Gl_becomePart.2.1 94 = .ok (.iload 7, 2) := by decide +kernel
theorem d_Gl_becomePart_96 : decode m_Gl_becomePart.2.1 96 = .ok (.iload 8, 2) := by decide +kernel
theorem d_Gl_becomePart_98 : decode m_Gl_becomePart.2.1 98 = .ok (.if_icmp .ge 32, 3) := by decide +kernel
theorem d_Gl_becomePart_101 : decode m_Gl_becomePart.2.1 101 = .ok (.iload 9, 2) := by decide +kernel
theorem d_Gl_becomePart_103 : decode m_Gl_becomePart.2.1 103 = .ok (.iload 10, 2) := by decide +kernel
theorem d_Gl_becomePart_105 : decode m_Gl_becomePart.2.1 105 = .ok (.if_icmp .ge 25, 3) := by decide +kernel
theorem d_Gl_becomePart_108 : decode m_Gl_becomePart.2.1 108 = .ok (.aload_n 0, 1) := by decide +kernel
theorem d_Gl_becomePart_109 : decode m_Gl_becomePart.2.1 109 = .ok (.iload 7, 2) := by decide +kernel
theorem d_Gl_becomePart_111 : decode m_Gl_becomePart.2.1 111 = .ok (.iload_n 2, 1) := by decide +kernel
theorem d_Gl_becomePart_112 : decode m_Gl_becomePart.2.1 112 = .ok (.isub, 1) := by decide +kernel
theorem d_Gl_becomePart_113 : decode m_Gl_becomePart.2.1 113 = .ok (.iload 9, 2) := by decide +kernel
theorem d_Gl_becomePart_115 : decode m_Gl_becomePart.2.1 115 = .ok (.iload_n 3, 1) := by decide +kernel
theorem d_Gl_becomePart_116 : decode m_Gl_becomePart.2.1 116 = .ok (.isub, 1) := by decide +kernel
theorem d_Gl_becomePart_117 : decode m_Gl_becomePart.2.1 117 = .ok (.iload 8, 2) := by decide +kernel
theorem d_Gl_becomePart_119 : decode m_Gl_becomePart.2.1 119 = .ok (.iload 7, 2) := by decide +kernel
theorem d_Gl_becomePart_121 : decode m_Gl_becomePart.2.1 121 = .ok (.isub, 1) := by decide +kernel
theorem d_Gl_becomePart_122 : decode m_Gl_becomePart.2.1 122 = .ok (.iload 10, 2) := by decide +kernel
theorem d_Gl_becomePart_124 : decode m_Gl_becomePart.2.1 124 = .ok (.iload 9, 2) := by decide +kernel
theorem d_Gl_becomePart_126 : decode m_Gl_becomePart.2.1 126 = .ok (.isub, 1) := by decide +kernel
theorem d_Gl_becomePart_127 : decode m_Gl_becomePart.2.1 127 = .ok (.invokevirtual 47, 3) := by decide +kernel
theorem d_Gl_becomePart_130 : decode m_Gl_becomePart.2.1 130 = .ok (.iinc 6 1, 3) := by decide +kernel
theorem d_Gl_becomePart_133 : decode m_Gl_becomePart.2.1 133 = .ok (.goto (-122), 3) := by decide +kernel
theorem d_Gl_becomePart_136 : decode m_Gl_becomePart.2.1 136 = .ok (.return_, 1) := by decide +kernel
theorem d_Ha_clearAwayIfEmpty_0 : decode m_Ha_clearAwayIfEmpty.2.1 0 = .ok (.aload_n 1, 1) := by decide +kernel
theorem d_Ha_clearAwayIfEmpty_1 : decode m_Ha_clearAwayIfEmpty.2.1 1 = .ok (.getfield 104, 3) := by decide +kernel
theorem d_Ha_clearAwayIfEmpty_4 : decode m_Ha_clearAwayIfEmpty.2.1 4 = .ok (.invokevirtual 168, 3) := by decide +kernel
theorem d_Ha_clearAwayIfEmpty_7 : decode m_Ha_clearAwayIfEmpty.2.1 7 = .ok (.iconst (-1), 1) := by decide +kernel
theorem d_Ha_clearAwayIfEmpty_8 : decode m_Ha_clearAwayIfEmpty.2.1 8 = .ok (.if_icmp .ne 15, 3) := by decide +kernel
theorem d_Ha_clearAwayIfEmpty_11 : decode m_Ha_clearAwayIfEmpty.2.1 11 = .ok (.aload_n 1, 1) := by decide +kernel
theorem d_Ha_clearAwayIfEmpty_12 : decode m_Ha_clearAwayIfEmpty.2.1 12 = .ok (.getfield 104, 3) := by decide +kernel
theorem d_Ha_clearAwayIfEmpty_15 : decode m_Ha_clearAwayIfEmpty.2.1 15 = .ok (.invokevirtual 204, 3) := by decide +kernel
theorem d_Ha_clearAwayIfEmpty_18 : decode m_Ha_clearAwayIfEmpty.2.1 18 = .ok (.aload_n 1, 1) := by decide +kernel
theorem d_Ha_clearAwayIfEmpty_19 : decode m_Ha_clearAwayIfEmpty.2.1 19 = .ok (.iconst 0, 1) := by decide +kernel
theorem d_Ha_clearAwayIfEmpty_20 : decode m_Ha_clearAwayIfEmpty.2.1 20 = .ok (.putfield 267, 3) := by decide +kernel
theorem d_Ha_clearAwayIfEmpty_23 : decode m_Ha_clearAwayIfEmpty.2.1 23 = .ok (.return_, 1) := by decide +kernel
theorem d_Lw_broke_0 : decode m_Lw_broke.2.1 0 = .ok (.aload_n 3, 1) := by decide +kernel
theorem d_Lw_broke_1 : decode m_Lw_broke.2.1 1 = .ok (.iconst 0, 1) := by decide +kernel
theorem d_Lw_broke_2 : decode m_Lw_broke.2.1 2 = .ok (.aload_n 0, 1) := by decide +kernel
theorem d_Lw_broke_3 : decode m_Lw_broke.2.1 3 = .ok (.iload_n 1, 1) := by decide +kernel
theorem d_Lw_broke_4 : decode m_Lw_broke.2.1 4 = .ok (.iload_n 2, 1) := by decide +kernel
theorem d_Lw_broke_5 : decode m_Lw_broke.2.1 5 = .ok (.invokevirtual 47, 3) := by decide +kernel
theorem d_Lw_broke_8 : decode m_Lw_broke.2.1 8 = .ok (.i2l, 1) := by decide +kernel
theorem d_Lw_broke_9 : decode m_Lw_broke.2.1 9 = .ok (.lastore, 1) := by decide +kernel
theorem d_Lw_broke_10 : decode m_Lw_broke.2.1 10 = .ok (.goto 15, 3) := by decide +kernel
theorem d_Lw_broke_13 : decode m_Lw_broke.2.1 13 = .ok (.astore 4, 2) := by decide +kernel
theorem d_Lw_broke_15 : decode m_Lw_broke.2.1 15 = .ok (.iconst 1, 1) := by decide +kernel
theorem d_Lw_broke_16 : decode m_Lw_broke.2.1 16 = .ok (.ireturn, 1) := by decide +kernel
theorem d_Lw_broke_17 : decode m_Lw_broke.2.1 17 = .ok (.astore 4, 2) := by decide +kernel
theorem d_Lw_broke_19 : decode m_Lw_broke.2.1 19 = .ok (.iconst 2, 1) := by decide +kernel
theorem d_Lw_broke_20 : decode m_Lw_broke.2.1 20 = .ok (.ireturn, 1) := by decide +kernel
theorem d_Lw_broke_21 : decode m_Lw_broke.2.1 21 = .ok (.astore 4, 2) := by decide +kernel
theorem d_Lw_broke_23 : decode m_Lw_broke.2.1 23 = .ok (.iconst 3, 1) := by decide +kernel
theorem d_Lw_broke_24 : decode m_Lw_broke.2.1 24 = .ok (.ireturn, 1) := by decide +kernel
theorem d_Lw_broke_25 : decode m_Lw_broke.2.1 25 = .ok (.iconst 0, 1) := by decide +kernel
theorem d_Lw_broke_26 : decode m_Lw_broke.2.1 26 = .ok (.ireturn, 1) := by decide +kernel
theorem d_Ha_broke_0 : decode m_Ha_broke.2.1 0 = .ok (.aload_n 0, 1) := by decide +kernel
theorem d_Ha_broke_1 : decode m_Ha_broke.2.1 1 = .ok (.iload_n 1, 1) := by decide +kernel
theorem d_Ha_broke_2 : decode m_Ha_broke.2.1 2 = .ok (.invokevirtual 154, 3) := by decide +kernel
theorem d_Ha_broke_5 : decode m_Ha_broke.2.1 5 = .ok (.astore_n 3, 1) := by decide +kernel
theorem d_Ha_broke_6 : decode m_Ha_broke.2.1 6 = .ok (.aload_n 3, 1) := by decide +kernel
theorem d_Ha_broke_7 : decode m_Ha_broke.2.1 7 = .ok (.getfield 104, 3) := by decide +kernel
theorem d_Ha_broke_10 : decode m_Ha_broke.2.1 10 = .ok (.astore 4, 2) := by decide +kernel
theorem d_Ha_broke_12 : decode m_Ha_broke.2.1 12 = .ok (.aload 4, 2) := by decide +kernel
theorem d_Ha_broke_14 : decode m_Ha_broke.2.1 14 = .ok (.iload_n 2, 1) := by decide +kernel
theorem d_Ha_broke_15 : decode m_Ha_broke.2.1 15 = .ok (.invokevirtual 157, 3) := by decide +kernel
theorem d_Ha_broke_18 : decode m_Ha_broke.2.1 18 = .ok (.ifCond .ne 11, 3) := by decide +kernel
theorem d_Ha_broke_21 : decode m_Ha_broke.2.1 21 = .ok (.new 160, 3) := by decide +kernel
theorem d_Ha_broke_24 : decode m_Ha_broke.2.1 24 = .ok (.dup, 1) := by decide +kernel
theorem d_Ha_broke_25 : decode m_Ha_broke.2.1 25 = .ok (.invokespecial 162, 3) := by decide +kernel
theorem d_Ha_broke_28 : decode m_Ha_broke.2.1 28 = .ok (.athrow, 1) := by decide +kernel
theorem d_Ha_broke_29 : decode m_Ha_broke.2.1 29 = .ok (.aload 4, 2) := by decide +kernel
theorem d_Ha_broke_31 : decode m_Ha_broke.2.1 31 = .ok (.getfield 175, 3) := by decide +kernel
theorem d_Ha_broke_34 : decode m_Ha_broke.2.1 34 = .ok (.iload_n 2, 1) := by decide +kernel
theorem d_Ha_broke_35 : decode m_Ha_broke.2.1 35 = .ok (.iaload, 1) := by decide +kernel
theorem d_Ha_broke_36 : decode m_Ha_broke.2.1 36 = .ok (.iconst 1, 1) := by decide +kernel
theorem d_Ha_broke_37 : decode m_Ha_broke.2.1 37 = .ok (.if_icmp .eq 11, 3) := by decide +kernel
theorem d_Ha_broke_40 : decode m_Ha_broke.2.1 40 = .ok (.new 64, 3) := by decide +kernel
theorem d_Ha_broke_43 : decode m_Ha_broke.2.1 43 = .ok (.dup, 1) := by decide +kernel
theorem d_Ha_broke_44 : decode m_Ha_broke.2.1 44 = .ok (.invokespecial 66, 3) := by decide +kernel
theorem d_Ha_broke_47 : decode m_Ha_broke.2.1 47 = .ok (.athrow, 1) := by decide +kernel
theorem d_Ha_broke_48 : decode m_Ha_broke.2.1 48 = .ok (.aload_n 0, 1) := by decide +kernel
theorem d_Ha_broke_49 : decode m_Ha_broke.2.1 49 = .ok (.dup, 1) := by decide +kernel
theorem d_Ha_broke_50 : decode m_Ha_broke.2.1 50 = .ok (.getfield 190, 3) := by decide +kernel
theorem d_Ha_broke_53 : decode m_Ha_broke.2.1 53 = .ok (.aload 4, 2) := by decide +kernel
theorem d_Ha_broke_55 : decode m_Ha_broke.2.1 55 = .ok (.iload_n 2, 1) := by decide +kernel
theorem d_Ha_broke_56 : decode m_Ha_broke.2.1 56 = .ok (.invokevirtual 193, 3) := by decide +kernel
theorem d_Ha_broke_59 : decode m_Ha_broke.2.1 59 = .ok (.ladd, 1) := by decide +kernel
theorem d_Ha_broke_60 : decode m_Ha_broke.2.1 60 = .ok (.putfield 190, 3) := by decide +kernel
theorem d_Ha_broke_63 : decode m_Ha_broke.2.1 63 = .ok (.aload_n 0, 1) := by decide +kernel
theorem d_Ha_broke_64 : decode m_Ha_broke.2.1 64 = .ok (.aload 4, 2) := by decide +kernel
theorem d_Ha_broke_66 : decode m_Ha_broke.2.1 66 = .ok (.iload_n 2, 1) := by decide +kernel
theorem d_Ha_broke_67 : decode m_Ha_broke.2.1 67 = .ok (.invokevirtual 196, 3) := by decide +kernel
theorem d_Ha_broke_70 : decode m_Ha_broke.2.1 70 = .ok (.istore 5, 2) := by decide +kernel
theorem d_Ha_broke_72 : decode m_Ha_broke.2.1 72 = .ok (.aload 4, 2) := by decide +kernel
theorem d_Ha_broke_74 : decode m_Ha_broke.2.1 74 = .ok (.iload_n 2, 1) := by decide +kernel
theorem d_Ha_broke_75 : decode m_Ha_broke.2.1 75 = .ok (.invokevirtual 200, 3) := by decide +kernel
theorem d_Ha_broke_78 : decode m_Ha_broke.2.1 78 = .ok (.aload_n 0, 1) := by decide +kernel
theorem d_Ha_broke_79 : decode m_Ha_broke.2.1 79 = .ok (.aload_n 3, 1) := by decide +kernel
theorem d_Ha_broke_80 : decode m_Ha_broke.2.1 80 = .ok (.invokevirtual 186, 3) := by decide +kernel
theorem d_Ha_broke_83 : decode m_Ha_broke.2.1 83 = .ok (.iload 5, 2) := by decide +kernel
theorem d_Ha_broke_85 : decode m_Ha_broke.2.1 85 = .ok (.ireturn, 1) := by decide +kernel
theorem d_Ha_reopenPanes_0 : decode m_Ha_reopenPanes.2.1 0 = .ok (.aload_n 1, 1) := by decide +kernel
theorem d_Ha_reopenPanes_1 : decode m_Ha_reopenPanes.2.1 1 = .ok (.iload_n 2, 1) := by decide +kernel
theorem d_Ha_reopenPanes_2 : decode m_Ha_reopenPanes.2.1 2 = .ok (.invokevirtual 315, 3) := by decide +kernel
theorem d_Ha_reopenPanes_5 : decode m_Ha_reopenPanes.2.1 5 = .ok (.istore_n 3, 1) := by decide +kernel
theorem d_Ha_reopenPanes_6 : decode m_Ha_reopenPanes.2.1 6 = .ok (.iconst 0, 1) := by decide +kernel
theorem d_Ha_reopenPanes_7 : decode m_Ha_reopenPanes.2.1 7 = .ok (.istore 4, 2) := by decide +kernel
theorem d_Ha_reopenPanes_9 : decode m_Ha_reopenPanes.2.1 9 = .ok (.iload_n 2, 1) := by decide +kernel
theorem d_Ha_reopenPanes_10 : decode m_Ha_reopenPanes.2.1 10 = .ok (.istore 5, 2) := by decide +kernel
theorem d_Ha_reopenPanes_12 : decode m_Ha_reopenPanes.2.1 12 = .ok (.iload 5, 2) := by decide +kernel
theorem d_Ha_reopenPanes_14 : decode m_Ha_reopenPanes.2.1 14 = .ok (.iload_n 3, 1) := by decide +kernel
theorem d_Ha_reopenPanes_15 : decode m_Ha_reopenPanes.2.1 15 = .ok (.if_icmp .ge 37, 3) := by decide +kernel
theorem d_Ha_reopenPanes_18 : decode m_Ha_reopenPanes.2.1 18 = .ok (.aload_n 1, 1) := by decide +kernel
theorem d_Ha_reopenPanes_19 : decode m_Ha_reopenPanes.2.1 19 = .ok (.getfield 290, 3) := by decide +kernel
theorem d_Ha_reopenPanes_22 : decode m_Ha_reopenPanes.2.1 22 = .ok (.iload 5, 2) := by decide +kernel
theorem d_Ha_reopenPanes_24 : decode m_Ha_reopenPanes.2.1 24 = .ok (.iaload, 1) := by decide +kernel
theorem d_Ha_reopenPanes_25 : decode m_Ha_reopenPanes.2.1 25 = .ok (.iconst 2, 1) := by decide +kernel
theorem d_Ha_reopenPanes_26 : decode m_Ha_reopenPanes.2.1 26 = .ok (.if_icmp .ne 20, 3) := by decide +kernel
theorem d_Ha_reopenPanes_29 : decode m_Ha_reopenPanes.2.1 29 = .ok (.aload_n 0, 1) := by decide +kernel
theorem d_Ha_reopenPanes_30 : decode m_Ha_reopenPanes.2.1 30 = .ok (.getfield 18, 3) := by decide +kernel
end
section
theorem d_Ha_reopenPanes_33 : decode m_Ha_reopenPanes.2.1 33 = .ok (.aload_n 1, 1) := by decide +kernel
theorem d_Ha_reopenPanes_34 : decode m_Ha_reopenPanes.2.1 34 = .ok (.getfield 293, 3) := by decide +kernel
theorem d_Ha_reopenPanes_37 : decode m_Ha_reopenPanes.2.1 37 = .ok (.iload 5, 2) := by decide +kernel
theorem d_Ha_reopenPanes_39 : decode m_Ha_reopenPanes.2.1 39 = .ok (.iaload, 1) := by decide +kernel
theorem d_Ha_reopenPanes_40 : decode m_Ha_reopenPanes.2.1 40 = .ok (.invokevirtual 319, 3) := by decide +kernel
theorem d_Ha_reopenPanes_43 : decode m_Ha_reopenPanes.2.1 43 = .ok (.iinc 4 1, 3) := by decide +kernel
theorem d_Ha_reopenPanes_46 : decode m_Ha_reopenPanes.2.1 46 = .ok (.iinc 5 1, 3) := by decide +kernel
theorem d_Ha_reopenPanes_49 : decode m_Ha_reopenPanes.2.1 49 = .ok (.goto (-37), 3) := by decide +kernel
theorem d_Ha_reopenPanes_52 : decode m_Ha_reopenPanes.2.1 52 = .ok (.iload 4, 2) := by decide +kernel
theorem d_Ha_reopenPanes_54 : decode m_Ha_reopenPanes.2.1 54 = .ok (.ireturn, 1) := by decide +kernel
theorem d_Tr_endOf_0 : decode m_Tr_endOf.2.1 0 = .ok (.iconst 1, 1) := by decide +kernel
theorem d_Tr_endOf_1 : decode m_Tr_endOf.2.1 1 = .ok (.istore_n 2, 1) := by decide +kernel
theorem d_Tr_endOf_2 : decode m_Tr_endOf.2.1 2 = .ok (.iload_n 1, 1) := by decide +kernel
theorem d_Tr_endOf_3 : decode m_Tr_endOf.2.1 3 = .ok (.istore_n 3, 1) := by decide +kernel
theorem d_Tr_endOf_4 : decode m_Tr_endOf.2.1 4 = .ok (.iload_n 3, 1) := by decide +kernel
theorem d_Tr_endOf_5 : decode m_Tr_endOf.2.1 5 = .ok (.aload_n 0, 1) := by decide +kernel
theorem d_Tr_endOf_6 : decode m_Tr_endOf.2.1 6 = .ok (.getfield 36, 3) := by decide +kernel
theorem d_Tr_endOf_9 : decode m_Tr_endOf.2.1 9 = .ok (.if_icmp .ge 29, 3) := by decide +kernel
theorem d_Tr_endOf_12 : decode m_Tr_endOf.2.1 12 = .ok (.iload_n 2, 1) := by decide +kernel
theorem d_Tr_endOf_13 : decode m_Tr_endOf.2.1 13 = .ok (.ifCond .le 25, 3) := by decide +kernel
theorem d_Tr_endOf_16 : decode m_Tr_endOf.2.1 16 = .ok (.iload_n 2, 1) := by decide +kernel
theorem d_Tr_endOf_17 : decode m_Tr_endOf.2.1 17 = .ok (.aload_n 0, 1) := by decide +kernel
theorem d_Tr_endOf_18 : decode m_Tr_endOf.2.1 18 = .ok (.iload_n 3, 1) := by decide +kernel
theorem d_Tr_endOf_19 : decode m_Tr_endOf.2.1 19 = .ok (.invokevirtual 97, 3) := by decide +kernel
theorem d_Tr_endOf_22 : decode m_Tr_endOf.2.1 22 = .ok (.ifCond .eq 7, 3) := by decide +kernel
theorem d_Tr_endOf_25 : decode m_Tr_endOf.2.1 25 = .ok (.iconst 1, 1) := by decide +kernel
theorem d_Tr_endOf_26 : decode m_Tr_endOf.2.1 26 = .ok (.goto 4, 3) := by decide +kernel
theorem d_Tr_endOf_29 : decode m_Tr_endOf.2.1 29 = .ok (.iconst (-1), 1) := by decide +kernel
theorem d_Tr_endOf_30 : decode m_Tr_endOf.2.1 30 = .ok (.iadd, 1) := by decide +kernel
theorem d_Tr_endOf_31 : decode m_Tr_endOf.2.1 31 = .ok (.istore_n 2, 1) := by decide +kernel
theorem d_Tr_endOf_32 : decode m_Tr_endOf.2.1 32 = .ok (.iinc 3 1, 3) := by decide +kernel
theorem d_Tr_endOf_35 : decode m_Tr_endOf.2.1 35 = .ok (.goto (-31), 3) := by decide +kernel
theorem d_Tr_endOf_38 : decode m_Tr_endOf.2.1 38 = .ok (.iload_n 3, 1) := by decide +kernel
theorem d_Tr_endOf_39 : decode m_Tr_endOf.2.1 39 = .ok (.ireturn, 1) := by decide +kernel
theorem d_Bk_reopen_0 : decode m_Bk_reopen.2.1 0 = .ok (.aload_n 0, 1) := by decide +kernel
theorem d_Bk_reopen_1 : decode m_Bk_reopen.2.1 1 = .ok (.iload_n 1, 1) := by decide +kernel
theorem d_Bk_reopen_2 : decode m_Bk_reopen.2.1 2 = .ok (.invokevirtual 29, 3) := by decide +kernel
theorem d_Bk_reopen_5 : decode m_Bk_reopen.2.1 5 = .ok (.astore_n 2, 1) := by decide +kernel
theorem d_Bk_reopen_6 : decode m_Bk_reopen.2.1 6 = .ok (.aload_n 2, 1) := by decide +kernel
theorem d_Bk_reopen_7 : decode m_Bk_reopen.2.1 7 = .ok (.ifnull 23, 3) := by decide +kernel
theorem d_Bk_reopen_10 : decode m_Bk_reopen.2.1 10 = .ok (.aload_n 2, 1) := by decide +kernel
theorem d_Bk_reopen_11 : decode m_Bk_reopen.2.1 11 = .ok (.dup, 1) := by decide +kernel
theorem d_Bk_reopen_12 : decode m_Bk_reopen.2.1 12 = .ok (.getfield 36, 3) := by decide +kernel
theorem d_Bk_reopen_15 : decode m_Bk_reopen.2.1 15 = .ok (.iconst 1, 1) := by decide +kernel
theorem d_Bk_reopen_16 : decode m_Bk_reopen.2.1 16 = .ok (.isub, 1) := by decide +kernel
theorem d_Bk_reopen_17 : decode m_Bk_reopen.2.1 17 = .ok (.putfield 36, 3) := by decide +kernel
theorem d_Bk_reopen_20 : decode m_Bk_reopen.2.1 20 = .ok (.aload_n 2, 1) := by decide +kernel
theorem d_Bk_reopen_21 : decode m_Bk_reopen.2.1 21 = .ok (.dup, 1) := by decide +kernel
theorem d_Bk_reopen_22 : decode m_Bk_reopen.2.1 22 = .ok (.getfield 33, 3) := by decide +kernel
theorem d_Bk_reopen_25 : decode m_Bk_reopen.2.1 25 = .ok (.iconst 1, 1) := by decide +kernel
theorem d_Bk_reopen_26 : decode m_Bk_reopen.2.1 26 = .ok (.iadd, 1) := by decide +kernel
theorem d_Bk_reopen_27 : decode m_Bk_reopen.2.1 27 = .ok (.putfield 33, 3) := by decide +kernel
theorem d_Bk_reopen_30 : decode m_Bk_reopen.2.1 30 = .ok (.return_, 1) := by decide +kernel
theorem d_Tr_breakFrom_0 : decode m_Tr_breakFrom.2.1 0 = .ok (.aload_n 0, 1) := by decide +kernel
theorem d_Tr_breakFrom_1 : decode m_Tr_breakFrom.2.1 1 = .ok (.iload_n 1, 1) := by decide +kernel
theorem d_Tr_breakFrom_2 : decode m_Tr_breakFrom.2.1 2 = .ok (.invokevirtual 101, 3) := by decide +kernel
theorem d_Tr_breakFrom_5 : decode m_Tr_breakFrom.2.1 5 = .ok (.istore_n 2, 1) := by decide +kernel
theorem d_Tr_breakFrom_6 : decode m_Tr_breakFrom.2.1 6 = .ok (.iload_n 1, 1) := by decide +kernel
theorem d_Tr_breakFrom_7 : decode m_Tr_breakFrom.2.1 7 = .ok (.istore_n 3, 1) := by decide +kernel
theorem d_Tr_breakFrom_8 : decode m_Tr_breakFrom.2.1 8 = .ok (.iload_n 3, 1) := by decide +kernel
theorem d_Tr_breakFrom_9 : decode m_Tr_breakFrom.2.1 9 = .ok (.iload_n 2, 1) := by decide +kernel
theorem d_Tr_breakFrom_10 : decode m_Tr_breakFrom.2.1 10 = .ok (.if_icmp .ge 16, 3) := by decide +kernel
theorem d_Tr_breakFrom_13 : decode m_Tr_breakFrom.2.1 13 = .ok (.aload_n 0, 1) := by decide +kernel
theorem d_Tr_breakFrom_14 : decode m_Tr_breakFrom.2.1 14 = .ok (.getfield 33, 3) := by decide +kernel
theorem d_Tr_breakFrom_17 : decode m_Tr_breakFrom.2.1 17 = .ok (.iload_n 3, 1) := by decide +kernel
theorem d_Tr_breakFrom_18 : decode m_Tr_breakFrom.2.1 18 = .ok (.iconst 3, 1) := by decide +kernel
theorem d_Tr_breakFrom_19 : decode m_Tr_breakFrom.2.1 19 = .ok (.iastore, 1) := by decide +kernel
theorem d_Tr_breakFrom_20 : decode m_Tr_breakFrom.2.1 20 = .ok (.iinc 3 1, 3) := by decide +kernel
theorem d_Tr_breakFrom_23 : decode m_Tr_breakFrom.2.1 23 = .ok (.goto (-15), 3) := by decide +kernel
theorem d_Tr_breakFrom_26 : decode m_Tr_breakFrom.2.1 26 = .ok (.return_, 1) := by decide +kernel
theorem d_Lw_cancel_0 : decode m_Lw_cancel.2.1 0 = .ok (.aload_n 2, 1) := by decide +kernel
theorem d_Lw_cancel_1 : decode m_Lw_cancel.2.1 1 = .ok (.iconst 0, 1) := by decide +kernel
theorem d_Lw_cancel_2 : decode m_Lw_cancel.2.1 2 = .ok (.aload_n 0, 1) := by decide +kernel
theorem d_Lw_cancel_3 : decode m_Lw_cancel.2.1 3 = .ok (.iload_n 1, 1) := by decide +kernel
theorem d_Lw_cancel_4 : decode m_Lw_cancel.2.1 4 = .ok (.invokevirtual 50, 3) := by decide +kernel
theorem d_Lw_cancel_7 : decode m_Lw_cancel.2.1 7 = .ok (.i2l, 1) := by decide +kernel
theorem d_Lw_cancel_8 : decode m_Lw_cancel.2.1 8 = .ok (.lastore, 1) := by decide +kernel
theorem d_Lw_cancel_9 : decode m_Lw_cancel.2.1 9 = .ok (.goto 9, 3) := by decide +kernel
theorem d_Lw_cancel_12 : decode m_Lw_cancel.2.1 12 = .ok (.astore_n 3, 1) := by decide +kernel
theorem d_Lw_cancel_13 : decode m_Lw_cancel.2.1 13 = .ok (.iconst 1, 1) := by decide +kernel
theorem d_Lw_cancel_14 : decode m_Lw_cancel.2.1 14 = .ok (.ireturn, 1) := by decide +kernel
theorem d_Lw_cancel_15 : decode m_Lw_cancel.2.1 15 = .ok (.astore_n 3, 1) := by decide +kernel
theorem d_Lw_cancel_16 : decode m_Lw_cancel.2.1 16 = .ok (.iconst 2, 1) := by decide +kernel
theorem d_Lw_cancel_17 : decode m_Lw_cancel.2.1 17 = .ok (.ireturn, 1) := by decide +kernel
theorem d_Lw_cancel_18 : decode m_Lw_cancel.2.1 18 = .ok (.iconst 0, 1) := by decide +kernel
theorem d_Lw_cancel_19 : decode m_Lw_cancel.2.1 19 = .ok (.ireturn, 1) := by decide +kernel
theorem d_Ha_cancel_0 : decode m_Ha_cancel.2.1 0 = .ok (.aload_n 0, 1) := by decide +kernel
theorem d_Ha_cancel_1 : decode m_Ha_cancel.2.1 1 = .ok (.iload_n 1, 1) := by decide +kernel
theorem d_Ha_cancel_2 : decode m_Ha_cancel.2.1 2 = .ok (.invokevirtual 154, 3) := by decide +kernel
theorem d_Ha_cancel_5 : decode m_Ha_cancel.2.1 5 = .ok (.getfield 104, 3) := by decide +kernel
theorem d_Ha_cancel_8 : decode m_Ha_cancel.2.1 8 = .ok (.astore_n 2, 1) := by decide +kernel
theorem d_Ha_cancel_9 : decode m_Ha_cancel.2.1 9 = .ok (.aload_n 2, 1) := by decide +kernel
theorem d_Ha_cancel_10 : decode m_Ha_cancel.2.1 10 = .ok (.getfield 175, 3) := by decide +kernel
theorem d_Ha_cancel_13 : decode m_Ha_cancel.2.1 13 = .ok (.iconst 0, 1) := by decide +kernel
theorem d_Ha_cancel_14 : decode m_Ha_cancel.2.1 14 = .ok (.iaload, 1) := by decide +kernel
theorem d_Ha_cancel_15 : decode m_Ha_cancel.2.1 15 = .ok (.iconst 1, 1) := by decide +kernel
theorem d_Ha_cancel_16 : decode m_Ha_cancel.2.1 16 = .ok (.if_icmp .eq 11, 3) := by decide +kernel
theorem d_Ha_cancel_19 : decode m_Ha_cancel.2.1 19 = .ok (.new 64, 3) := by decide +kernel
theorem d_Ha_cancel_22 : decode m_Ha_cancel.2.1 22 = .ok (.dup, 1) := by decide +kernel
theorem d_Ha_cancel_23 : decode m_Ha_cancel.2.1 23 = .ok (.invokespecial 66, 3) := by decide +kernel
theorem d_Ha_cancel_26 : decode m_Ha_cancel.2.1 26 = .ok (.athrow, 1) := by decide +kernel
theorem d_Ha_cancel_27 : decode m_Ha_cancel.2.1 27 = .ok (.aload_n 0, 1) := by decide +kernel
theorem d_Ha_cancel_28 : decode m_Ha_cancel.2.1 28 = .ok (.aload_n 2, 1) := by decide +kernel
theorem d_Ha_cancel_29 : decode m_Ha_cancel.2.1 29 = .ok (.iconst 0, 1) := by decide +kernel
theorem d_Ha_cancel_30 : decode m_Ha_cancel.2.1 30 = .ok (.invokevirtual 196, 3) := by decide +kernel
theorem d_Ha_cancel_33 : decode m_Ha_cancel.2.1 33 = .ok (.istore_n 3, 1) := by decide +kernel
theorem d_Ha_cancel_34 : decode m_Ha_cancel.2.1 34 = .ok (.aload_n 2, 1) := by decide +kernel
theorem d_Ha_cancel_35 : decode m_Ha_cancel.2.1 35 = .ok (.invokevirtual 204, 3) := by decide +kernel
theorem d_Ha_cancel_38 : decode m_Ha_cancel.2.1 38 = .ok (.iload_n 3, 1) := by decide +kernel
theorem d_Ha_cancel_39 : decode m_Ha_cancel.2.1 39 = .ok (.ireturn, 1) := by decide +kernel
theorem d_Lw_use_0 : decode m_Lw_use.2.1 0 = .ok (.aload_n 2, 1) := by decide +kernel
theorem d_Lw_use_1 : decode m_Lw_use.2.1 1 = .ok (.iconst 0, 1) := by decide +kernel
theorem d_Lw_use_2 : decode m_Lw_use.2.1 2 = .ok (.aload_n 0, 1) := by decide +kernel
theorem d_Lw_use_3 : decode m_Lw_use.2.1 3 = .ok (.iload_n 1, 1) := by decide +kernel
theorem d_Lw_use_4 : decode m_Lw_use.2.1 4 = .ok (.invokevirtual 53, 3) := by decide +kernel
theorem d_Lw_use_7 : decode m_Lw_use.2.1 7 = .ok (.i2l, 1) := by decide +kernel
theorem d_Lw_use_8 : decode m_Lw_use.2.1 8 = .ok (.lastore, 1) := by decide +kernel
theorem d_Lw_use_9 : decode m_Lw_use.2.1 9 = .ok (.goto 9, 3) := by decide +kernel
theorem d_Lw_use_12 : decode m_Lw_use.2.1 12 = .ok (.astore_n 3, 1) := by decide +kernel
theorem d_Lw_use_13 : decode m_Lw_use.2.1 13 = .ok (.iconst 1, 1) := by decide +kernel
theorem d_Lw_use_14 : decode m_Lw_use.2.1 14 = .ok (.ireturn, 1) := by decide +kernel
theorem d_Lw_use_15 : decode m_Lw_use.2.1 15 = .ok (.astore_n 3, 1) := by decide +kernel
theorem d_Lw_use_16 : decode m_Lw_use.2.1 16 = .ok (.iconst 2, 1) := by decide +kernel
theorem d_Lw_use_17 : decode m_Lw_use.2.1 17 = .ok (.ireturn, 1) := by decide +kernel
theorem d_Lw_use_18 : decode m_Lw_use.2.1 18 = .ok (.iconst 0, 1) := by decide +kernel
theorem d_Lw_use_19 : decode m_Lw_use.2.1 19 = .ok (.ireturn, 1) := by decide +kernel
theorem d_Ha_use_0 : decode m_Ha_use.2.1 0 = .ok (.aload_n 0, 1) := by decide +kernel
theorem d_Ha_use_1 : decode m_Ha_use.2.1 1 = .ok (.iload_n 1, 1) := by decide +kernel
theorem d_Ha_use_2 : decode m_Ha_use.2.1 2 = .ok (.invokevirtual 207, 3) := by decide +kernel
theorem d_Ha_use_5 : decode m_Ha_use.2.1 5 = .ok (.astore_n 2, 1) := by decide +kernel
theorem d_Ha_use_6 : decode m_Ha_use.2.1 6 = .ok (.aload_n 0, 1) := by decide +kernel
theorem d_Ha_use_7 : decode m_Ha_use.2.1 7 = .ok (.invokevirtual 60, 3) := by decide +kernel
theorem d_Ha_use_10 : decode m_Ha_use.2.1 10 = .ok (.astore_n 3, 1) := by decide +kernel
theorem d_Ha_use_11 : decode m_Ha_use.2.1 11 = .ok (.aload_n 3, 1) := by decide +kernel
theorem d_Ha_use_12 : decode m_Ha_use.2.1 12 = .ok (.ifnonnull 11, 3) := by decide +kernel
theorem d_Ha_use_15 : decode m_Ha_use.2.1 15 = .ok (.new 64, 3) := by decide +kernel
theorem d_Ha_use_18 : decode m_Ha_use.2.1 18 = .ok (.dup, 1) := by decide +kernel
theorem d_Ha_use_19 : decode m_Ha_use.2.1 19 = .ok (.invokespecial 66, 3) := by decide +kernel
theorem d_Ha_use_22 : decode m_Ha_use.2.1 22 = .ok (.athrow, 1) := by decide +kernel
theorem d_Ha_use_23 : decode m_Ha_use.2.1 23 = .ok (.aload_n 3, 1) := by decide +kernel
theorem d_Ha_use_24 : decode m_Ha_use.2.1 24 = .ok (.getfield 67, 3) := by decide +kernel
theorem d_Ha_use_27 : decode m_Ha_use.2.1 27 = .ok (.aload_n 2, 1) := by decide +kernel
theorem d_Ha_use_28 : decode m_Ha_use.2.1 28 = .ok (.iconst 0, 1) := by decide +kernel
theorem d_Ha_use_29 : decode m_Ha_use.2.1 29 = .ok (.iconst 0, 1) := by decide +kernel
theorem d_Ha_use_30 : decode m_Ha_use.2.1 30 = .ok (.aload_n 2, 1) := by decide +kernel
theorem d_Ha_use_31 : decode m_Ha_use.2.1 31 = .ok (.getfield 93, 3) := by decide +kernel
theorem d_Ha_use_34 : decode m_Ha_use.2.1 34 = .ok (.aload_n 2, 1) := by decide +kernel
theorem d_Ha_use_35 : decode m_Ha_use.2.1 35 = .ok (.getfield 101, 3) := by decide +kernel
theorem d_Ha_use_38 : decode m_Ha_use.2.1 38 = .ok (.invokevirtual 211, 3) := by decide +kernel
theorem d_Ha_use_41 : decode m_Ha_use.2.1 41 = .ok (.aload_n 0, 1) := by decide +kernel
theorem d_Ha_use_42 : decode m_Ha_use.2.1 42 = .ok (.getfield 25, 3) := by decide +kernel
theorem d_Ha_use_45 : decode m_Ha_use.2.1 45 = .ok (.iload_n 1, 1) := by decide +kernel
theorem d_Ha_use_46 : decode m_Ha_use.2.1 46 = .ok (.invokevirtual 215, 3) := by decide +kernel
theorem d_Ha_use_49 : decode m_Ha_use.2.1 49 = .ok (.aload_n 0, 1) := by decide +kernel
theorem d_Ha_use_50 : decode m_Ha_use.2.1 50 = .ok (.aload_n 3, 1) := by decide +kernel
theorem d_Ha_use_51 : decode m_Ha_use.2.1 51 = .ok (.invokevirtual 85, 3) := by decide +kernel
theorem d_Ha_use_54 : decode m_Ha_use.2.1 54 = .ok (.ireturn, 1) := by decide +kernel
theorem d_Ha_findOffcut_0 : decode m_Ha_findOffcut.2.1 0 = .ok (.aload_n 0, 1) := by decide +kernel
theorem d_Ha_findOffcut_1 : decode m_Ha_findOffcut.2.1 1 = .ok (.getfield 25, 3) := by decide +kernel
theorem d_Ha_findOffcut_4 : decode m_Ha_findOffcut.2.1 4 = .ok (.iload_n 1, 1) := by decide +kernel
theorem d_Ha_findOffcut_5 : decode m_Ha_findOffcut.2.1 5 = .ok (.invokevirtual 274, 3) := by decide +kernel
theorem d_Ha_findOffcut_8 : decode m_Ha_findOffcut.2.1 8 = .ok (.ifCond .ne 11, 3) := by decide +kernel
theorem d_Ha_findOffcut_11 : decode m_Ha_findOffcut.2.1 11 = .ok (.new 147, 3) := by decide +kernel
theorem d_Ha_findOffcut_14 : decode m_Ha_findOffcut.2.1 14 = .ok (.dup, 1) := by decide +kernel
theorem d_Ha_findOffcut_15 : decode m_Ha_findOffcut.2.1 15 = .ok (.invokespecial 149, 3) := by decide +kernel
theorem d_Ha_findOffcut_18 : decode m_Ha_findOffcut.2.1 18 = .ok (.athrow, 1) := by decide +kernel
theorem d_Ha_findOffcut_19 : decode m_Ha_findOffcut.2.1 19 = .ok (.aload_n 0, 1) := by decide +kernel
theorem d_Ha_findOffcut_20 : decode m_Ha_findOffcut.2.1 20 = .ok (.getfield 25, 3) := by decide +kernel
theorem d_Ha_findOffcut_23 : decode m_Ha_findOffcut.2.1 23 = .ok (.getfield 275, 3) := by decide +kernel
theorem d_Ha_findOffcut_26 : decode m_Ha_findOffcut.2.1 26 = .ok (.iload_n 1, 1) := by decide +kernel
theorem d_Ha_findOffcut_27 : decode m_Ha_findOffcut.2.1 27 = .ok (.aaload, 1) := by decide +kernel
theorem d_Ha_findOffcut_28 : decode m_Ha_findOffcut.2.1 28 = .ok (.areturn, 1) := by decide +kernel
theorem d_Rk_has_0 : decode m_Rk_has.2.1 0 = .ok (.iload_n 1, 1) := by decide +kernel
theorem d_Rk_has_1 : decode m_Rk_has.2.1 1 = .ok (.ifCond .lt 15, 3) := by decide +kernel
theorem d_Rk_has_4 : decode m_Rk_has.2.1 4 = .ok (.iload_n 1, 1) := by decide +kernel
theorem d_Rk_has_5 : decode m_Rk_has.2.1 5 = .ok (.aload_n 0, 1) := by decide +kernel
theorem d_Rk_has_6 : decode m_Rk_has.2.1 6 = .ok (.getfield 18, 3) := by decide +kernel
theorem d_Rk_has_9 : decode m_Rk_has.2.1 9 = .ok (.if_icmp .ge 7, 3) := by decide +kernel
theorem d_Rk_has_12 : decode m_Rk_has.2.1 12 = .ok (.iconst 1, 1) := by decide +kernel
theorem d_Rk_has_13 : decode m_Rk_has.2.1 13 = .ok (.goto 4, 3) := by decide +kernel
theorem d_Rk_has_16 : decode m_Rk_has.2.1 16 = .ok (.iconst 0, 1) := by decide +kernel
theorem d_Rk_has_17 : decode m_Rk_has.2.1 17 = .ok (.ireturn, 1) := by decide +kernel
theorem d_Rk_remove_0 : decode m_Rk_remove.2.1 0 = .ok (.aload_n 0, 1) := by decide +kernel
theorem d_Rk_remove_1 : decode m_Rk_remove.2.1 1 = .ok (.iload_n 1, 1) := by decide +kernel
theorem d_Rk_remove_2 : decode m_Rk_remove.2.1 2 = .ok (.invokevirtual 26, 3) := by decide +kernel
theorem d_Rk_remove_5 : decode m_Rk_remove.2.1 5 = .ok (.ifCond .ne 4, 3) := by decide +kernel
theorem d_Rk_remove_8 : decode m_Rk_remove.2.1 8 = .ok (.return_, 1) := by decide +kernel
theorem d_Rk_remove_9 : decode m_Rk_remove.2.1 9 = .ok (.aload_n 0, 1) := by decide +kernel
theorem d_Rk_remove_10 : decode m_Rk_remove.2.1 10 = .ok (.getfield 11, 3) := by decide +kernel
theorem d_Rk_remove_13 : decode m_Rk_remove.2.1 13 = .ok (.iload_n 1, 1) := by decide +kernel
theorem d_Rk_remove_14 : decode m_Rk_remove.2.1 14 = .ok (.aaload, 1) := by decide +kernel
theorem d_Rk_remove_15 : decode m_Rk_remove.2.1 15 = .ok (.astore_n 2, 1) := by decide +kernel
theorem d_Rk_remove_16 : decode m_Rk_remove.2.1 16 = .ok (.iload_n 1, 1) := by decide +kernel
theorem d_Rk_remove_17 : decode m_Rk_remove.2.1 17 = .ok (.istore_n 3, 1) := by decide +kernel
theorem d_Rk_remove_18 : decode m_Rk_remove.2.1 18 = .ok (.iload_n 3, 1) := by decide +kernel
theorem d_Rk_remove_19 : decode m_Rk_remove.2.1 19 = .ok (.iconst 1, 1) := by decide +kernel
theorem d_Rk_remove_20 : decode m_Rk_remove.2.1 20 = .ok (.iadd, 1) := by decide +kernel
theorem d_Rk_remove_21 : decode m_Rk_remove.2.1 21 = .ok (.aload_n 0, 1) := by decide +kernel
theorem d_Rk_remove_22 : decode m_Rk_remove.2.1 22 = .ok (.getfield 18, 3) := by decide +kernel
theorem d_Rk_remove_25 : decode m_Rk_remove.2.1 25 = .ok (.if_icmp .ge 23, 3) := by decide +kernel
theorem d_Rk_remove_28 : decode m_Rk_remove.2.1 28 = .ok (.aload_n 0, 1) := by decide +kernel
theorem d_Rk_remove_29 : decode m_Rk_remove.2.1 29 = .ok (.getfield 11, 3) := by decide +kernel
theorem d_Rk_remove_32 : decode m_Rk_remove.2.1 32 = .ok (.iload_n 3, 1) := by decide +kernel
theorem d_Rk_remove_33 : decode m_Rk_remove.2.1 33 = .ok (.aload_n 0, 1) := by decide +kernel
theorem d_Rk_remove_34 : decode m_Rk_remove.2.1 34 = .ok (.getfield 11, 3) := by decide +kernel
theorem d_Rk_remove_37 : decode m_Rk_remove.2.1 37 = .ok (.iload_n 3, 1) := by decide +kernel
theorem d_Rk_remove_38 : decode m_Rk_remove.2.1 38 = .ok (.iconst 1, 1) := by decide +kernel
theorem d_Rk_remove_39 : decode m_Rk_remove.2.1 39 = .ok (.iadd, 1) := by decide +kernel
theorem d_Rk_remove_40 : decode m_Rk_remove.2.1 40 = .ok (.aaload, 1) := by decide +kernel
theorem d_Rk_remove_41 : decode m_Rk_remove.2.1 41 = .ok (.aastore, 1) := by decide +kernel
theorem d_Rk_remove_42 : decode m_Rk_remove.2.1 42 = .ok (.iinc 3 1, 3) := by decide +kernel
theorem d_Rk_remove_45 : decode m_Rk_remove.2.1 45 = .ok (.goto (-27), 3) := by decide +kernel
theorem d_Rk_remove_48 : decode m_Rk_remove.2.1 48 = .ok (.aload_n 0, 1) := by decide +kernel
theorem d_Rk_remove_49 : decode m_Rk_remove.2.1 49 = .ok (.dup, 1) := by decide +kernel
theorem d_Rk_remove_50 : decode m_Rk_remove.2.1 50 = .ok (.getfield 18, 3) := by decide +kernel
theorem d_Rk_remove_53 : decode m_Rk_remove.2.1 53 = .ok (.iconst 1, 1) := by decide +kernel
theorem d_Rk_remove_54 : decode m_Rk_remove.2.1 54 = .ok (.isub, 1) := by decide +kernel
theorem d_Rk_remove_55 : decode m_Rk_remove.2.1 55 = .ok (.putfield 18, 3) := by decide +kernel
theorem d_Rk_remove_58 : decode m_Rk_remove.2.1 58 = .ok (.aload_n 0, 1) := by decide +kernel
theorem d_Rk_remove_59 : decode m_Rk_remove.2.1 59 = .ok (.getfield 11, 3) := by decide +kernel
theorem d_Rk_remove_62 : decode m_Rk_remove.2.1 62 = .ok (.aload_n 0, 1) := by decide +kernel
theorem d_Rk_remove_63 : decode m_Rk_remove.2.1 63 = .ok (.getfield 18, 3) := by decide +kernel
theorem d_Rk_remove_66 : decode m_Rk_remove.2.1 66 = .ok (.aload_n 2, 1) := by decide +kernel
theorem d_Rk_remove_67 : decode m_Rk_remove.2.1 67 = .ok (.aastore, 1) := by decide +kernel
theorem d_Rk_remove_68 : decode m_Rk_remove.2.1 68 = .ok (.return_, 1) := by decide +kernel
theorem d_Lw_rack_0 : decode m_Lw_rack.2.1 0 = .ok (.aload_n 3, 1) := by decide +kernel
theorem d_Lw_rack_1 : decode m_Lw_rack.2.1 1 = .ok (.iconst 0, 1) := by decide +kernel
theorem d_Lw_rack_2 : decode m_Lw_rack.2.1 2 = .ok (.aload_n 0, 1) := by decide +kernel
theorem d_Lw_rack_3 : decode m_Lw_rack.2.1 3 = .ok (.iload_n 1, 1) := by decide +kernel
theorem d_Lw_rack_4 : decode m_Lw_rack.2.1 4 = .ok (.iload_n 2, 1) := by decide +kernel
theorem d_Lw_rack_5 : decode m_Lw_rack.2.1 5 = .ok (.invokevirtual 56, 3) := by decide +kernel
theorem d_Lw_rack_8 : decode m_Lw_rack.2.1 8 = .ok (.i2l, 1) := by decide +kernel
theorem d_Lw_rack_9 : decode m_Lw_rack.2.1 9 = .ok (.lastore, 1) := by decide +kernel
theorem d_Lw_rack_10 : decode m_Lw_rack.2.1 10 = .ok (.goto 11, 3) := by decide +kernel
theorem d_Lw_rack_13 : decode m_Lw_rack.2.1 13 = .ok (.astore 4, 2) := by decide +kernel
theorem d_Lw_rack_15 : decode m_Lw_rack.2.1 15 = .ok (.iconst 1, 1) := by decide +kernel
theorem d_Lw_rack_16 : decode m_Lw_rack.2.1 16 = .ok (.ireturn, 1) := by decide +kernel
theorem d_Lw_rack_17 : decode m_Lw_rack.2.1 17 = .ok (.astore 4, 2) := by decide +kernel
theorem d_Lw_rack_19 : decode m_Lw_rack.2.1 19 = .ok (.iconst 2, 1) := by decide +kernel
theorem d_Lw_rack_20 : decode m_Lw_rack.2.1 20 = .ok (.ireturn, 1) := by decide +kernel
theorem d_Lw_rack_21 : decode m_Lw_rack.2.1 21 = .ok (.iconst 0, 1) := by decide +kernel
theorem d_Lw_rack_22 : decode m_Lw_rack.2.1 22 = .ok (.ireturn, 1) := by decide +kernel
theorem d_Ha_rack_0 : decode m_Ha_rack.2.1 0 = .ok (.aload_n 0, 1) := by decide +kernel
theorem d_Ha_rack_1 : decode m_Ha_rack.2.1 1 = .ok (.iload_n 1, 1) := by decide +kernel
theorem d_Ha_rack_2 : decode m_Ha_rack.2.1 2 = .ok (.invokevirtual 207, 3) := by decide +kernel
theorem d_Ha_rack_5 : decode m_Ha_rack.2.1 5 = .ok (.astore_n 3, 1) := by decide +kernel
theorem d_Ha_rack_6 : decode m_Ha_rack.2.1 6 = .ok (.iload_n 2, 1) := by decide +kernel
theorem d_Ha_rack_7 : decode m_Ha_rack.2.1 7 = .ok (.tableswitch 40 0 2 #[25, 30, 35], 25) := by decide +kernel
theorem d_Ha_rack_32 : decode m_Ha_rack.2.1 32 = .ok (.aload_n 3, 1) := by decide +kernel
theorem d_Ha_rack_33 : decode m_Ha_rack.2.1 33 = .ok (.getfield 93, 3) := by decide +kernel
theorem d_Ha_rack_36 : decode m_Ha_rack.2.1 36 = .ok (.ireturn, 1) := by decide +kernel
theorem d_Ha_rack_37 : decode m_Ha_rack.2.1 37 = .ok (.aload_n 3, 1) := by decide +kernel
theorem d_Ha_rack_38 : decode m_Ha_rack.2.1 38 = .ok (.getfield 101, 3) := by decide +kernel
theorem d_Ha_rack_41 : decode m_Ha_rack.2.1 41 = .ok (.ireturn, 1) := by decide +kernel
theorem d_Ha_rack_42 : decode m_Ha_rack.2.1 42 = .ok (.aload_n 3, 1) := by decide +kernel
theorem d_Ha_rack_43 : decode m_Ha_rack.2.1 43 = .ok (.getfield 114, 3) := by decide +kernel
theorem d_Ha_rack_46 : decode m_Ha_rack.2.1 46 = .ok (.ireturn, 1) := by decide +kernel
theorem d_Ha_rack_47 : decode m_Ha_rack.2.1 47 = .ok (.new 57, 3) := by decide +kernel
theorem d_Ha_rack_50 : decode m_Ha_rack.2.1 50 = .ok (.dup, 1) := by decide +kernel
theorem d_Ha_rack_51 : decode m_Ha_rack.2.1 51 = .ok (.invokespecial 59, 3) := by decide +kernel
theorem d_Ha_rack_54 : decode m_Ha_rack.2.1 54 = .ok (.athrow, 1) := by decide +kernel
theorem d_Lw_flawed_0 : decode m_Lw_flawed.2.1 0 = .ok (.aload 4, 2) := by decide +kernel
theorem d_Lw_flawed_2 : decode m_Lw_flawed.2.1 2 = .ok (.iconst 0, 1) := by decide +kernel
theorem d_Lw_flawed_3 : decode m_Lw_flawed.2.1 3 = .ok (.aload_n 0, 1) := by decide +kernel
theorem d_Lw_flawed_4 : decode m_Lw_flawed.2.1 4 = .ok (.iload_n 1, 1) := by decide +kernel
theorem d_Lw_flawed_5 : decode m_Lw_flawed.2.1 5 = .ok (.iload_n 2, 1) := by decide +kernel
theorem d_Lw_flawed_6 : decode m_Lw_flawed.2.1 6 = .ok (.iload_n 3, 1) := by decide +kernel
theorem d_Lw_flawed_7 : decode m_Lw_flawed.2.1 7 = .ok (.invokevirtual 59, 3) := by decide +kernel
theorem d_Lw_flawed_10 : decode m_Lw_flawed.2.1 10 = .ok (.i2l, 1) := by decide +kernel
theorem d_Lw_flawed_11 : decode m_Lw_flawed.2.1 11 = .ok (.lastore, 1) := by decide +kernel
theorem d_Lw_flawed_12 : decode m_Lw_flawed.2.1 12 = .ok (.goto 15, 3) := by decide +kernel
theorem d_Lw_flawed_15 : decode m_Lw_flawed.2.1 15 = .ok (.astore 5, 2) := by decide +kernel
theorem d_Lw_flawed_17 : decode m_Lw_flawed.2.1 17 = .ok (.iconst 1, 1) := by decide +kernel
theorem d_Lw_flawed_18 : decode m_Lw_flawed.2.1 18 = .ok (.ireturn, 1) := by decide +kernel
theorem d_Lw_flawed_19 : decode m_Lw_flawed.2.1 19 = .ok (.astore 5, 2) := by decide +kernel
theorem d_Lw_flawed_21 : decode m_Lw_flawed.2.1 21 = .ok (.iconst 2, 1) := by decide +kernel
theorem d_Lw_flawed_22 : decode m_Lw_flawed.2.1 22 = .ok (.ireturn, 1) := by decide +kernel
theorem d_Lw_flawed_23 : decode m_Lw_flawed.2.1 23 = .ok (.astore 5, 2) := by decide +kernel
theorem d_Lw_flawed_25 : decode m_Lw_flawed.2.1 25 = .ok (.iconst 3, 1) := by decide +kernel
theorem d_Lw_flawed_26 : decode m_Lw_flawed.2.1 26 = .ok (.ireturn, 1) := by decide +kernel
theorem d_Lw_flawed_27 : decode m_Lw_flawed.2.1 27 = .ok (.iconst 0, 1) := by decide +kernel
theorem d_Lw_flawed_28 : decode m_Lw_flawed.2.1 28 = .ok (.ireturn, 1) := by decide +kernel
theorem d_Ha_flawed_0 : decode m_Ha_flawed.2.1 0 = .ok (.aload_n 0, 1) := by decide +kernel
theorem d_Ha_flawed_1 : decode m_Ha_flawed.2.1 1 = .ok (.iload_n 1, 1) := by decide +kernel
theorem d_Ha_flawed_2 : decode m_Ha_flawed.2.1 2 = .ok (.invokevirtual 89, 3) := by decide +kernel
theorem d_Ha_flawed_5 : decode m_Ha_flawed.2.1 5 = .ok (.getfield 67, 3) := by decide +kernel
theorem d_Ha_flawed_8 : decode m_Ha_flawed.2.1 8 = .ok (.astore 4, 2) := by decide +kernel
theorem d_Ha_flawed_10 : decode m_Ha_flawed.2.1 10 = .ok (.iload_n 2, 1) := by decide +kernel
theorem d_Ha_flawed_11 : decode m_Ha_flawed.2.1 11 = .ok (.ifCond .lt 12, 3) := by decide +kernel
theorem d_Ha_flawed_14 : decode m_Ha_flawed.2.1 14 = .ok (.iload_n 2, 1) := by decide +kernel
theorem d_Ha_flawed_15 : decode m_Ha_flawed.2.1 15 = .ok (.aload 4, 2) := by decide +kernel
theorem d_Ha_flawed_17 : decode m_Ha_flawed.2.1 17 = .ok (.getfield 114, 3) := by decide +kernel
theorem d_Ha_flawed_20 : decode m_Ha_flawed.2.1 20 = .ok (.if_icmp .lt 11, 3) := by decide +kernel
theorem d_Ha_flawed_23 : decode m_Ha_flawed.2.1 23 = .ok (.new 160, 3) := by decide +kernel
theorem d_Ha_flawed_26 : decode m_Ha_flawed.2.1 26 = .ok (.dup, 1) := by decide +kernel
theorem d_Ha_flawed_27 : decode m_Ha_flawed.2.1 27 = .ok (.invokespecial 162, 3) := by decide +kernel
theorem d_Ha_flawed_30 : decode m_Ha_flawed.2.1 30 = .ok (.athrow, 1) := by decide +kernel
theorem d_Ha_flawed_31 : decode m_Ha_flawed.2.1 31 = .ok (.iload_n 3, 1) := by decide +kernel
theorem d_Ha_flawed_32 : decode m_Ha_flawed.2.1 32 = .ok (.tableswitch 64 0 3 #[32, 40, 48, 56], 32) := by decide +kernel
theorem d_Ha_flawed_64 : decode m_Ha_flawed.2.1 64 = .ok (.aload 4, 2) := by decide +kernel
theorem d_Ha_flawed_66 : decode m_Ha_flawed.2.1 66 = .ok (.getfield 221, 3) := by decide +kernel
theorem d_Ha_flawed_69 : decode m_Ha_flawed.2.1 69 = .ok (.iload_n 2, 1) := by decide +kernel
theorem d_Ha_flawed_70 : decode m_Ha_flawed.2.1 70 = .ok (.iaload, 1) := by decide +kernel
theorem d_Ha_flawed_71 : decode m_Ha_flawed.2.1 71 = .ok (.ireturn, 1) := by decide +kernel
theorem d_Ha_flawed_72 : decode m_Ha_flawed.2.1 72 = .ok (.aload 4, 2) := by decide +kernel
theorem d_Ha_flawed_74 : decode m_Ha_flawed.2.1 74 = .ok (.getfield 224, 3) := by decide +kernel
theorem d_Ha_flawed_77 : decode m_Ha_flawed.2.1 77 = .ok (.iload_n 2, 1) := by decide +kernel
theorem d_Ha_flawed_78 : decode m_Ha_flawed.2.1 78 = .ok (.iaload, 1) := by decide +kernel
theorem d_Ha_flawed_79 : decode m_Ha_flawed.2.1 79 = .ok (.ireturn, 1) := by decide +kernel
theorem d_Ha_flawed_80 : decode m_Ha_flawed.2.1 80 = .ok (.aload 4, 2) := by decide +kernel
theorem d_Ha_flawed_82 : decode m_Ha_flawed.2.1 82 = .ok (.getfield 227, 3) := by decide +kernel
theorem d_Ha_flawed_85 : decode m_Ha_flawed.2.1 85 = .ok (.iload_n 2, 1) := by decide +kernel
theorem d_Ha_flawed_86 : decode m_Ha_flawed.2.1 86 = .ok (.iaload, 1) := by decide +kernel
theorem d_Ha_flawed_87 : decode m_Ha_flawed.2.1 87 = .ok (.ireturn, 1) := by decide +kernel
theorem d_Ha_flawed_88 : decode m_Ha_flawed.2.1 88 = .ok (.aload 4, 2) := by decide +kernel
theorem d_Ha_flawed_90 : decode m_Ha_flawed.2.1 90 = .ok (.getfield 230, 3) := by decide +kernel
theorem d_Ha_flawed_93 : decode m_Ha_flawed.2.1 93 = .ok (.iload_n 2, 1) := by decide +kernel
theorem d_Ha_flawed_94 : decode m_Ha_flawed.2.1 94 = .ok (.iaload, 1) := by decide +kernel
theorem d_Ha_flawed_95 : decode m_Ha_flawed.2.1 95 = .ok (.ireturn, 1) := by decide +kernel
theorem d_Ha_flawed_96 : decode m_Ha_flawed.2.1 96 = .ok (.new 57, 3) := by decide +kernel
theorem d_Ha_flawed_99 : decode m_Ha_flawed.2.1 99 = .ok (.dup, 1) := by decide +kernel
theorem d_Ha_flawed_100 : decode m_Ha_flawed.2.1 100 = .ok (.invokespecial 59, 3) := by decide +kernel
theorem d_Ha_flawed_103 : decode m_Ha_flawed.2.1 103 = .ok (.athrow, 1) := by decide +kernel
theorem d_Lw_panes_0 : decode m_Lw_panes.2.1 0 = .ok (.aload_n 3, 1) := by decide +kernel
theorem d_Lw_panes_1 : decode m_Lw_panes.2.1 1 = .ok (.iconst 0, 1) := by decide +kernel
theorem d_Lw_panes_2 : decode m_Lw_panes.2.1 2 = .ok (.aload_n 0, 1) := by decide +kernel
theorem d_Lw_panes_3 : decode m_Lw_panes.2.1 3 = .ok (.iload_n 1, 1) := by decide +kernel
theorem d_Lw_panes_4 : decode m_Lw_panes.2.1 4 = .ok (.iload_n 2, 1) := by decide +kernel
theorem d_Lw_panes_5 : decode m_Lw_panes.2.1 5 = .ok (.invokevirtual 62, 3) := by decide +kernel
theorem d_Lw_panes_8 : decode m_Lw_panes.2.1 8 = .ok (.i2l, 1) := by decide +kernel
theorem d_Lw_panes_9 : decode m_Lw_panes.2.1 9 = .ok (.lastore, 1) := by decide +kernel
theorem d_Lw_panes_10 : decode m_Lw_panes.2.1 10 = .ok (.goto 11, 3) := by decide +kernel
theorem d_Lw_panes_13 : decode m_Lw_panes.2.1 13 = .ok (.astore 4, 2) := by decide +kernel
theorem d_Lw_panes_15 : decode m_Lw_panes.2.1 15 = .ok (.iconst 1, 1) := by decide +kernel
theorem d_Lw_panes_16 : decode m_Lw_panes.2.1 16 = .ok (.ireturn, 1) := by decide +kernel
theorem d_Lw_panes_17 : decode m_Lw_panes.2.1 17 = .ok (.astore 4, 2) := by decide +kernel
theorem d_Lw_panes_19 : decode m_Lw_panes.2.1 19 = .ok (.iconst 2, 1) := by decide +kernel
theorem d_Lw_panes_20 : decode m_Lw_panes.2.1 20 = .ok (.ireturn, 1) := by decide +kernel
theorem d_Lw_panes_21 : decode m_Lw_panes.2.1 21 = .ok (.iconst 0, 1) := by decide +kernel
theorem d_Lw_panes_22 : decode m_Lw_panes.2.1 22 = .ok (.ireturn, 1) := by decide +kernel
theorem d_Ha_panes_0 : decode m_Ha_panes.2.1 0 = .ok (.aload_n 0, 1) := by decide +kernel
theorem d_Ha_panes_1 : decode m_Ha_panes.2.1 1 = .ok (.getfield 18, 3) := by decide +kernel
theorem d_Ha_panes_4 : decode m_Ha_panes.2.1 4 = .ok (.iload_n 1, 1) := by decide +kernel
theorem d_Ha_panes_5 : decode m_Ha_panes.2.1 5 = .ok (.invokevirtual 233, 3) := by decide +kernel
theorem d_Ha_panes_8 : decode m_Ha_panes.2.1 8 = .ok (.astore_n 3, 1) := by decide +kernel
theorem d_Ha_panes_9 : decode m_Ha_panes.2.1 9 = .ok (.aload_n 3, 1) := by decide +kernel
theorem d_Ha_panes_10 : decode m_Ha_panes.2.1 10 = .ok (.ifnonnull 11, 3) := by decide +kernel
theorem d_Ha_panes_13 : decode m_Ha_panes.2.1 13 = .ok (.new 147, 3) := by decide +kernel
theorem d_Ha_panes_16 : decode m_Ha_panes.2.1 16 = .ok (.dup, 1) := by decide +kernel
theorem d_Ha_panes_17 : decode m_Ha_panes.2.1 17 = .ok (.invokespecial 149, 3) := by decide +kernel
theorem d_Ha_panes_20 : decode m_Ha_panes.2.1 20 = .ok (.athrow, 1) := by decide +kernel
theorem d_Ha_panes_21 : decode m_Ha_panes.2.1 21 = .ok (.iload_n 2, 1) := by decide +kernel
theorem d_Ha_panes_22 : decode m_Ha_panes.2.1 22 = .ok (.tableswitch 41 0 2 #[26, 31, 36], 26) := by decide +kernel
theorem d_Ha_panes_48 : decode m_Ha_panes.2.1 48 = .ok (.aload_n 3, 1) := by decide +kernel
theorem d_Ha_panes_49 : decode m_Ha_panes.2.1 49 = .ok (.getfield 237, 3) := by decide +kernel
theorem d_Ha_panes_52 : decode m_Ha_panes.2.1 52 = .ok (.ireturn, 1) := by decide +kernel
theorem d_Ha_panes_53 : decode m_Ha_panes.2.1 53 = .ok (.aload_n 3, 1) := by decide +kernel
theorem d_Ha_panes_54 : decode m_Ha_panes.2.1 54 = .ok (.getfield 240, 3) := by decide +kernel
theorem d_Ha_panes_57 : decode m_Ha_panes.2.1 57 = .ok (.ireturn, 1) := by decide +kernel
theorem d_Ha_panes_58 : decode m_Ha_panes.2.1 58 = .ok (.aload_n 3, 1) := by decide +kernel
theorem d_Ha_panes_59 : decode m_Ha_panes.2.1 59 = .ok (.getfield 243, 3) := by decide +kernel
theorem d_Ha_panes_62 : decode m_Ha_panes.2.1 62 = .ok (.ireturn, 1) := by decide +kernel
theorem d_Ha_panes_63 : decode m_Ha_panes.2.1 63 = .ok (.new 57, 3) := by decide +kernel
theorem d_Ha_panes_66 : decode m_Ha_panes.2.1 66 = .ok (.dup, 1) := by decide +kernel
theorem d_Ha_panes_67 : decode m_Ha_panes.2.1 67 = .ok (.invokespecial 59, 3) := by decide +kernel
theorem d_Ha_panes_70 : decode m_Ha_panes.2.1 70 = .ok (.athrow, 1) := by decide +kernel
theorem d_Mo_init_0 : decode m_Mo_init.2.1 0 = .ok (.aload_n 0, 1) := by decide +kernel
theorem d_Mo_init_1 : decode m_Mo_init.2.1 1 = .ok (.invokespecial 1, 3) := by decide +kernel
theorem d_Mo_init_4 : decode m_Mo_init.2.1 4 = .ok (.aload_n 0, 1) := by decide +kernel
theorem d_Mo_init_5 : decode m_Mo_init.2.1 5 = .ok (.bipush 8, 2) := by decide +kernel
theorem d_Mo_init_7 : decode m_Mo_init.2.1 7 = .ok (.newarray .boolean, 2) := by decide +kernel
theorem d_Mo_init_9 : decode m_Mo_init.2.1 9 = .ok (.putfield 7, 3) := by decide +kernel
theorem d_Mo_init_12 : decode m_Mo_init.2.1 12 = .ok (.aload_n 0, 1) := by decide +kernel
theorem d_Mo_init_13 : decode m_Mo_init.2.1 13 = .ok (.bipush 8, 2) := by decide +kernel
theorem d_Mo_init_15 : decode m_Mo_init.2.1 15 = .ok (.newarray .int, 2) := by decide +kernel
theorem d_Mo_init_17 : decode m_Mo_init.2.1 17 = .ok (.putfield 13, 3) := by decide +kernel
theorem d_Mo_init_20 : decode m_Mo_init.2.1 20 = .ok (.aload_n 0, 1) := by decide +kernel
theorem d_Mo_init_21 : decode m_Mo_init.2.1 21 = .ok (.bipush 8, 2) := by decide +kernel
theorem d_Mo_init_23 : decode m_Mo_init.2.1 23 = .ok (.newarray .int, 2) := by decide +kernel
theorem d_Mo_init_25 : decode m_Mo_init.2.1 25 = .ok (.putfield 17, 3) := by decide +kernel
theorem d_Mo_init_28 : decode m_Mo_init.2.1 28 = .ok (.aload_n 0, 1) := by decide +kernel
theorem d_Mo_init_29 : decode m_Mo_init.2.1 29 = .ok (.bipush 8, 2) := by decide +kernel
theorem d_Mo_init_31 : decode m_Mo_init.2.1 31 = .ok (.newarray .int, 2) := by decide +kernel
theorem d_Mo_init_33 : decode m_Mo_init.2.1 33 = .ok (.putfield 20, 3) := by decide +kernel
theorem d_Mo_init_36 : decode m_Mo_init.2.1 36 = .ok (.aload_n 0, 1) := by decide +kernel
theorem d_Mo_init_37 : decode m_Mo_init.2.1 37 = .ok (.bipush 8, 2) := by decide +kernel
theorem d_Mo_init_39 : decode m_Mo_init.2.1 39 = .ok (.newarray .boolean, 2) := by decide +kernel
theorem d_Mo_init_41 : decode m_Mo_init.2.1 41 = .ok (.putfield 23, 3) := by decide +kernel
theorem d_Mo_init_44 : decode m_Mo_init.2.1 44 = .ok (.aload_n 0, 1) := by decide +kernel
theorem d_Mo_init_45 : decode m_Mo_init.2.1 45 = .ok (.bipush 8, 2) := by decide +kernel
theorem d_Mo_init_47 : decode m_Mo_init.2.1 47 = .ok (.newarray .boolean, 2) := by decide +kernel
theorem d_Mo_init_49 : decode m_Mo_init.2.1 49 = .ok (.putfield 26, 3) := by decide +kernel
theorem d_Mo_init_52 : decode m_Mo_init.2.1 52 = .ok (.aload_n 0, 1) := by decide +kernel
theorem d_Mo_init_53 : decode m_Mo_init.2.1 53 = .ok (.bipush 8, 2) := by decide +kernel
theorem d_Mo_init_55 : decode m_Mo_init.2.1 55 = .ok (.newarray .int, 2) := by decide +kernel
theorem d_Mo_init_57 : decode m_Mo_init.2.1 57 = .ok (.putfield 29, 3) := by decide +kernel
theorem d_Mo_init_60 : decode m_Mo_init.2.1 60 = .ok (.aload_n 0, 1) := by decide +kernel
theorem d_Mo_init_61 : decode m_Mo_init.2.1 61 = .ok (.sipush 192, 3) := by decide +kernel
theorem d_Mo_init_64 : decode m_Mo_init.2.1 64 = .ok (.newarray .int, 2) := by decide +kernel
theorem d_Mo_init_66 : decode m_Mo_init.2.1 66 = .ok (.putfield 32, 3) := by decide +kernel
theorem d_Mo_init_69 : decode m_Mo_init.2.1 69 = .ok (.aload_n 0, 1) := by decide +kernel
theorem d_Mo_init_70 : decode m_Mo_init.2.1 70 = .ok (.bipush 8, 2) := by decide +kernel
theorem d_Mo_init_72 : decode m_Mo_init.2.1 72 = .ok (.newarray .int, 2) := by decide +kernel
theorem d_Mo_init_74 : decode m_Mo_init.2.1 74 = .ok (.putfield 35, 3) := by decide +kernel
theorem d_Mo_init_77 : decode m_Mo_init.2.1 77 = .ok (.aload_n 0, 1) := by decide +kernel
theorem d_Mo_init_78 : decode m_Mo_init.2.1 78 = .ok (.sipush 1280, 3) := by decide +kernel
theorem d_Mo_init_81 : decode m_Mo_init.2.1 81 = .ok (.newarray .int, 2) := by decide +kernel
theorem d_Mo_init_83 : decode m_Mo_init.2.1 83 = .ok (.putfield 38, 3) := by decide +kernel
theorem d_Mo_init_86 : decode m_Mo_init.2.1 86 = .ok (.aload_n 0, 1) := by decide +kernel
theorem d_Mo_init_87 : decode m_Mo_init.2.1 87 = .ok (.sipush 1280, 3) := by decide +kernel
theorem d_Mo_init_90 : decode m_Mo_init.2.1 90 = .ok (.newarray .int, 2) := by decide +kernel
theorem d_Mo_init_92 : decode m_Mo_init.2.1 92 = .ok (.putfield 41, 3) := by decide +kernel
theorem d_Mo_init_95 : decode m_Mo_init.2.1 95 = .ok (.aload_n 0, 1) := by decide +kernel
theorem d_Mo_init_96 : decode m_Mo_init.2.1 96 = .ok (.sipush 1280, 3) := by decide +kernel
theorem d_Mo_init_99 : decode m_Mo_init.2.1 99 = .ok (.newarray .int, 2) := by decide +kernel
theorem d_Mo_init_101 : decode m_Mo_init.2.1 101 = .ok (.putfield 44, 3) := by decide +kernel
theorem d_Mo_init_104 : decode m_Mo_init.2.1 104 = .ok (.aload_n 0, 1) := by decide +kernel
theorem d_Mo_init_105 : decode m_Mo_init.2.1 105 = .ok (.sipush 1280, 3) := by decide +kernel
theorem d_Mo_init_108 : decode m_Mo_init.2.1 108 = .ok (.newarray .int, 2) := by decide +kernel
theorem d_Mo_init_110 : decode m_Mo_init.2.1 110 = .ok (.putfield 47, 3) := by decide +kernel
theorem d_Mo_init_113 : decode m_Mo_init.2.1 113 = .ok (.aload_n 0, 1) := by decide +kernel
theorem d_Mo_init_114 : decode m_Mo_init.2.1 114 = .ok (.sipush 1280, 3) := by decide +kernel
theorem d_Mo_init_117 : decode m_Mo_init.2.1 117 = .ok (.newarray .int, 2) := by decide +kernel
theorem d_Mo_init_119 : decode m_Mo_init.2.1 119 = .ok (.putfield 50, 3) := by decide +kernel
theorem d_Mo_init_122 : decode m_Mo_init.2.1 122 = .ok (.aload_n 0, 1) := by decide +kernel
theorem d_Mo_init_123 : decode m_Mo_init.2.1 123 = .ok (.sipush 1280, 3) := by decide +kernel
theorem d_Mo_init_126 : decode m_Mo_init.2.1 126 = .ok (.newarray .int, 2) := by decide +kernel
theorem d_Mo_init_128 : decode m_Mo_init.2.1 128 = .ok (.putfield 53, 3) := by decide +kernel
theorem d_Mo_init_131 : decode m_Mo_init.2.1 131 = .ok (.aload_n 0, 1) := by decide +kernel
theorem d_Mo_init_132 : decode m_Mo_init.2.1 132 = .ok (.sipush 1280, 3) := by decide +kernel
theorem d_Mo_init_135 : decode m_Mo_init.2.1 135 = .ok (.newarray .int, 2) := by decide +kernel
theorem d_Mo_init_137 : decode m_Mo_init.2.1 137 = .ok (.putfield 56, 3) := by decide +kernel
theorem d_Mo_init_140 : decode m_Mo_init.2.1 140 = .ok (.aload_n 0, 1) := by decide +kernel
theorem d_Mo_init_141 : decode m_Mo_init.2.1 141 = .ok (.sipush 1280, 3) := by decide +kernel
theorem d_Mo_init_144 : decode m_Mo_init.2.1 144 = .ok (.newarray .int, 2) := by decide +kernel
theorem d_Mo_init_146 : decode m_Mo_init.2.1 146 = .ok (.putfield 59, 3) := by decide +kernel
theorem d_Mo_init_149 : decode m_Mo_init.2.1 149 = .ok (.aload_n 0, 1) := by decide +kernel
theorem d_Mo_init_150 : decode m_Mo_init.2.1 150 = .ok (.sipush 1280, 3) := by decide +kernel
theorem d_Mo_init_153 : decode m_Mo_init.2.1 153 = .ok (.newarray .int, 2) := by decide +kernel
theorem d_Mo_init_155 : decode m_Mo_init.2.1 155 = .ok (.putfield 62, 3) := by decide +kernel
theorem d_Mo_init_158 : decode m_Mo_init.2.1 158 = .ok (.aload_n 0, 1) := by decide +kernel
theorem d_Mo_init_159 : decode m_Mo_init.2.1 159 = .ok (.bipush 6, 2) := by decide +kernel
theorem d_Mo_init_161 : decode m_Mo_init.2.1 161 = .ok (.newarray .int, 2) := by decide +kernel
theorem d_Mo_init_163 : decode m_Mo_init.2.1 163 = .ok (.putfield 65, 3) := by decide +kernel
theorem d_Mo_init_166 : decode m_Mo_init.2.1 166 = .ok (.aload_n 0, 1) := by decide +kernel
theorem d_Mo_init_167 : decode m_Mo_init.2.1 167 = .ok (.bipush 6, 2) := by decide +kernel
theorem d_Mo_init_169 : decode m_Mo_init.2.1 169 = .ok (.newarray .int, 2) := by decide +kernel
theorem d_Mo_init_171 : decode m_Mo_init.2.1 171 = .ok (.putfield 68, 3) := by decide +kernel
theorem d_Mo_init_174 : decode m_Mo_init.2.1 174 = .ok (.aload_n 0, 1) := by decide +kernel
theorem d_Mo_init_175 : decode m_Mo_init.2.1 175 = .ok (.bipush 6, 2) := by decide +kernel
theorem d_Mo_init_177 : decode m_Mo_init.2.1 177 = .ok (.newarray .boolean, 2) := by decide +kernel
theorem d_Mo_init_179 : decode m_Mo_init.2.1 179 = .ok (.putfield 71, 3) := by decide +kernel
theorem d_Mo_init_182 : decode m_Mo_init.2.1 182 = .ok (.aload_n 0, 1) := by decide +kernel
theorem d_Mo_init_183 : decode m_Mo_init.2.1 183 = .ok (.bipush 6, 2) := by decide +kernel
theorem d_Mo_init_185 : decode m_Mo_init.2.1 185 = .ok (.newarray .int, 2) := by decide +kernel
theorem d_Mo_init_187 : decode m_Mo_init.2.1 187 = .ok (.putfield 74, 3) := by decide +kernel
theorem d_Mo_init_190 : decode m_Mo_init.2.1 190 = .ok (.aload_n 0, 1) := by decide +kernel
theorem d_Mo_init_191 : decode m_Mo_init.2.1 191 = .ok (.bipush 6, 2) := by decide +kernel
theorem d_Mo_init_193 : decode m_Mo_init.2.1 193 = .ok (.newarray .int, 2) := by decide +kernel
theorem d_Mo_init_195 : decode m_Mo_init.2.1 195 = .ok (.putfield 77, 3) := by decide +kernel
theorem d_Mo_init_198 : decode m_Mo_init.2.1 198 = .ok (.aload_n 0, 1) := by decide +kernel
theorem d_Mo_init_199 : decode m_Mo_init.2.1 199 = .ok (.bipush 6, 2) := by decide +kernel
theorem d_Mo_init_201 : decode m_Mo_init.2.1 201 = .ok (.newarray .int, 2) := by decide +kernel
theorem d_Mo_init_203 : decode m_Mo_init.2.1 203 = .ok (.putfield 80, 3) := by decide +kernel
theorem d_Mo_init_206 : decode m_Mo_init.2.1 206 = .ok (.aload_n 0, 1) := by decide +kernel
theorem d_Mo_init_207 : decode m_Mo_init.2.1 207 = .ok (.bipush 10, 2) := by decide +kernel
theorem d_Mo_init_209 : decode m_Mo_init.2.1 209 = .ok (.newarray .int, 2) := by decide +kernel
theorem d_Mo_init_211 : decode m_Mo_init.2.1 211 = .ok (.putfield 83, 3) := by decide +kernel
theorem d_Mo_init_214 : decode m_Mo_init.2.1 214 = .ok (.aload_n 0, 1) := by decide +kernel
theorem d_Mo_init_215 : decode m_Mo_init.2.1 215 = .ok (.bipush 10, 2) := by decide +kernel
theorem d_Mo_init_217 : decode m_Mo_init.2.1 217 = .ok (.newarray .int, 2) := by decide +kernel
theorem d_Mo_init_219 : decode m_Mo_init.2.1 219 = .ok (.putfield 86, 3) := by decide +kernel
theorem d_Mo_init_222 : decode m_Mo_init.2.1 222 = .ok (.aload_n 0, 1) := by decide +kernel
theorem d_Mo_init_223 : decode m_Mo_init.2.1 223 = .ok (.bipush 10, 2) := by decide +kernel
theorem d_Mo_init_225 : decode m_Mo_init.2.1 225 = .ok (.newarray .int, 2) := by decide +kernel
theorem d_Mo_init_227 : decode m_Mo_init.2.1 227 = .ok (.putfield 89, 3) := by decide +kernel
theorem d_Mo_init_230 : decode m_Mo_init.2.1 230 = .ok (.aload_n 0, 1) := by decide +kernel
theorem d_Mo_init_231 : decode m_Mo_init.2.1 231 = .ok (.sipush 240, 3) := by decide +kernel
theorem d_Mo_init_234 : decode m_Mo_init.2.1 234 = .ok (.newarray .int, 2) := by decide +kernel
theorem d_Mo_init_236 : decode m_Mo_init.2.1 236 = .ok (.putfield 92, 3) := by decide +kernel
theorem d_Mo_init_239 : decode m_Mo_init.2.1 239 = .ok (.aload_n 0, 1) := by decide +kernel
theorem d_Mo_init_240 : decode m_Mo_init.2.1 240 = .ok (.bipush 40, 2) := by decide +kernel
theorem d_Mo_init_242 : decode m_Mo_init.2.1 242 = .ok (.newarray .int, 2) := by decide +kernel
theorem d_Mo_init_244 : decode m_Mo_init.2.1 244 = .ok (.putfield 95, 3) := by decide +kernel
theorem d_Mo_init_247 : decode m_Mo_init.2.1 247 = .ok (.aload_n 0, 1) := by decide +kernel
theorem d_Mo_init_248 : decode m_Mo_init.2.1 248 = .ok (.bipush 40, 2) := by decide +kernel
theorem d_Mo_init_250 : decode m_Mo_init.2.1 250 = .ok (.newarray .int, 2) := by decide +kernel
theorem d_Mo_init_252 : decode m_Mo_init.2.1 252 = .ok (.putfield 98, 3) := by decide +kernel
theorem d_Mo_init_255 : decode m_Mo_init.2.1 255 = .ok (.aload_n 0, 1) := by decide +kernel
theorem d_Mo_init_256 : decode m_Mo_init.2.1 256 = .ok (.bipush 40, 2) := by decide +kernel
theorem d_Mo_init_258 : decode m_Mo_init.2.1 258 = .ok (.newarray .int, 2) := by decide +kernel
theorem d_Mo_init_260 : decode m_Mo_init.2.1 260 = .ok (.putfield 101, 3) := by decide +kernel
theorem d_Mo_init_263 : decode m_Mo_init.2.1 263 = .ok (.aload_n 0, 1) := by decide +kernel
theorem d_Mo_init_264 : decode m_Mo_init.2.1 264 = .ok (.bipush 40, 2) := by decide +kernel
theorem d_Mo_init_266 : decode m_Mo_init.2.1 266 = .ok (.newarray .int, 2) := by decide +kernel
theorem d_Mo_init_268 : decode m_Mo_init.2.1 268 = .ok (.putfield 104, 3) := by decide +kernel
theorem d_Mo_init_271 : decode m_Mo_init.2.1 271 = .ok (.aload_n 0, 1) := by decide +kernel
theorem d_Mo_init_272 : decode m_Mo_init.2.1 272 = .ok (.bipush 40, 2) := by decide +kernel
theorem d_Mo_init_274 : decode m_Mo_init.2.1 274 = .ok (.newarray .int, 2) := by decide +kernel
theorem d_Mo_init_276 : decode m_Mo_init.2.1 276 = .ok (.putfield 107, 3) := by decide +kernel
theorem d_Mo_init_279 : decode m_Mo_init.2.1 279 = .ok (.aload_n 0, 1) := by decide +kernel
theorem d_Mo_init_280 : decode m_Mo_init.2.1 280 = .ok (.bipush 6, 2) := by decide +kernel
theorem d_Mo_init_282 : decode m_Mo_init.2.1 282 = .ok (.newarray .int, 2) := by decide +kernel
theorem d_Mo_init_284 : decode m_Mo_init.2.1 284 = .ok (.putfield 110, 3) := by decide +kernel
theorem d_Mo_init_287 : decode m_Mo_init.2.1 287 = .ok (.aload_n 0, 1) := by decide +kernel
theorem d_Mo_init_288 : decode m_Mo_init.2.1 288 = .ok (.bipush 64, 2) := by decide +kernel
theorem d_Mo_init_290 : decode m_Mo_init.2.1 290 = .ok (.newarray .int, 2) := by decide +kernel
theorem d_Mo_init_292 : decode m_Mo_init.2.1 292 = .ok (.putfield 113, 3) := by decide +kernel
theorem d_Mo_init_295 : decode m_Mo_init.2.1 295 = .ok (.aload_n 0, 1) := by decide +kernel
theorem d_Mo_init_296 : decode m_Mo_init.2.1 296 = .ok (.bipush 64, 2) := by decide +kernel
theorem d_Mo_init_298 : decode m_Mo_init.2.1 298 = .ok (.newarray .int, 2) := by decide +kernel
theorem d_Mo_init_300 : decode m_Mo_init.2.1 300 = .ok (.putfield 116, 3) := by decide +kernel
theorem d_Mo_init_303 : decode m_Mo_init.2.1 303 = .ok (.aload_n 0, 1) := by decide +kernel
theorem d_Mo_init_304 : decode m_Mo_init.2.1 304 = .ok (.bipush 64, 2) := by decide +kernel
theorem d_Mo_init_306 : decode m_Mo_init.2.1 306 = .ok (.newarray .int, 2) := by decide +kernel
theorem d_Mo_init_308 : decode m_Mo_init.2.1 308 = .ok (.putfield 119, 3) := by decide +kernel
theorem d_Mo_init_311 : decode m_Mo_init.2.1 311 = .ok (.aload_n 0, 1) := by decide +kernel
theorem d_Mo_init_312 : decode m_Mo_init.2.1 312 = .ok (.bipush 64, 2) := by decide +kernel
theorem d_Mo_init_314 : decode m_Mo_init.2.1 314 = .ok (.newarray .int, 2) := by decide +kernel
theorem d_Mo_init_316 : decode m_Mo_init.2.1 316 = .ok (.putfield 122, 3) := by decide +kernel
theorem d_Mo_init_319 : decode m_Mo_init.2.1 319 = .ok (.aload_n 0, 1) := by decide +kernel
theorem d_Mo_init_320 : decode m_Mo_init.2.1 320 = .ok (.bipush 64, 2) := by decide +kernel
theorem d_Mo_init_322 : decode m_Mo_init.2.1 322 = .ok (.newarray .int, 2) := by decide +kernel
theorem d_Mo_init_324 : decode m_Mo_init.2.1 324 = .ok (.putfield 125, 3) := by decide +kernel
theorem d_Mo_init_327 : decode m_Mo_init.2.1 327 = .ok (.aload_n 0, 1) := by decide +kernel
theorem d_Mo_init_328 : decode m_Mo_init.2.1 328 = .ok (.bipush 64, 2) := by decide +kernel
theorem d_Mo_init_330 : decode m_Mo_init.2.1 330 = .ok (.newarray .int, 2) := by decide +kernel
theorem d_Mo_init_332 : decode m_Mo_init.2.1 332 = .ok (.putfield 128, 3) := by decide +kernel
theorem d_Mo_init_335 : decode m_Mo_init.2.1 335 = .ok (.aload_n 0, 1) := by decide +kernel
theorem d_Mo_init_336 : decode m_Mo_init.2.1 336 = .ok (.bipush 64, 2) := by decide +kernel
theorem d_Mo_init_338 : decode m_Mo_init.2.1 338 = .ok (.newarray .int, 2) := by decide +kernel
theorem d_Mo_init_340 : decode m_Mo_init.2.1 340 = .ok (.putfield 131, 3) := by decide +kernel
theorem d_Mo_init_343 : decode m_Mo_init.2.1 343 = .ok (.aload_n 0, 1) := by decide +kernel
theorem d_Mo_init_344 : decode m_Mo_init.2.1 344 = .ok (.bipush 64, 2) := by decide +kernel
theorem d_Mo_init_346 : decode m_Mo_init.2.1 346 = .ok (.newarray .int, 2) := by decide +kernel
theorem d_Mo_init_348 : decode m_Mo_init.2.1 348 = .ok (.putfield 134, 3) := by decide +kernel
theorem d_Mo_init_351 : decode m_Mo_init.2.1 351 = .ok (.aload_n 0, 1) := by decide +kernel
theorem d_Mo_init_352 : decode m_Mo_init.2.1 352 = .ok (.bipush 64, 2) := by decide +kernel
theorem d_Mo_init_354 : decode m_Mo_init.2.1 354 = .ok (.newarray .int, 2) := by decide +kernel
theorem d_Mo_init_356 : decode m_Mo_init.2.1 356 = .ok (.putfield 137, 3) := by decide +kernel
theorem d_Mo_init_359 : decode m_Mo_init.2.1 359 = .ok (.return_, 1) := by decide +kernel
theorem d_Mo_thrown_0 : decode m_Mo_thrown.2.1 0 = .ok (.aload_n 0, 1) := by decide +kernel
theorem d_Mo_thrown_1 : decode m_Mo_thrown.2.1 1 = .ok (.getfield 140, 3) := by decide +kernel
theorem d_Mo_thrown_4 : decode m_Mo_thrown.2.1 4 = .ok (.ireturn, 1) := by decide +kernel
theorem d_Mo_sheet_0 : decode m_Mo_sheet.2.1 0 = .ok (.aload_n 0, 1) := by decide +kernel
theorem d_Mo_sheet_1 : decode m_Mo_sheet.2.1 1 = .ok (.iload_n 1, 1) := by decide +kernel
theorem d_Mo_sheet_2 : decode m_Mo_sheet.2.1 2 = .ok (.invokestatic 150, 3) := by decide +kernel
theorem d_Mo_sheet_5 : decode m_Mo_sheet.2.1 5 = .ok (.ifCond .eq 10, 3) := by decide +kernel
theorem d_Mo_sheet_8 : decode m_Mo_sheet.2.1 8 = .ok (.iload_n 2, 1) := by decide +kernel
theorem d_Mo_sheet_9 : decode m_Mo_sheet.2.1 9 = .ok (.invokestatic 150, 3) := by decide +kernel
theorem d_Mo_sheet_12 : decode m_Mo_sheet.2.1 12 = .ok (.ifCond .ne 7, 3) := by decide +kernel
theorem d_Mo_sheet_15 : decode m_Mo_sheet.2.1 15 = .ok (.iconst 1, 1) := by decide +kernel
theorem d_Mo_sheet_16 : decode m_Mo_sheet.2.1 16 = .ok (.goto 17, 3) := by decide +kernel
theorem d_Mo_sheet_19 : decode m_Mo_sheet.2.1 19 = .ok (.aload_n 0, 1) := by decide +kernel
theorem d_Mo_sheet_20 : decode m_Mo_sheet.2.1 20 = .ok (.invokevirtual 154, 3) := by decide +kernel
theorem d_Mo_sheet_23 : decode m_Mo_sheet.2.1 23 = .ok (.bipush 8, 2) := by decide +kernel
theorem d_Mo_sheet_25 : decode m_Mo_sheet.2.1 25 = .ok (.if_icmp .ne 7, 3) := by decide +kernel
theorem d_Mo_sheet_28 : decode m_Mo_sheet.2.1 28 = .ok (.iconst 2, 1) := by decide +kernel
theorem d_Mo_sheet_29 : decode m_Mo_sheet.2.1 29 = .ok (.goto 4, 3) := by decide +kernel
theorem d_Mo_sheet_32 : decode m_Mo_sheet.2.1 32 = .ok (.iconst 0, 1) := by decide +kernel
theorem d_Mo_sheet_33 : decode m_Mo_sheet.2.1 33 = .ok (.putfield 140, 3) := by decide +kernel
theorem d_Mo_sheet_36 : decode m_Mo_sheet.2.1 36 = .ok (.aload_n 0, 1) := by decide +kernel
theorem d_Mo_sheet_37 : decode m_Mo_sheet.2.1 37 = .ok (.getfield 140, 3) := by decide +kernel
theorem d_Mo_sheet_40 : decode m_Mo_sheet.2.1 40 = .ok (.ifCond .le 5, 3) := by decide +kernel
theorem d_Mo_sheet_43 : decode m_Mo_sheet.2.1 43 = .ok (.iconst 0, 1) := by decide +kernel
theorem d_Mo_sheet_44 : decode m_Mo_sheet.2.1 44 = .ok (.ireturn, 1) := by decide +kernel
theorem d_Mo_sheet_45 : decode m_Mo_sheet.2.1 45 = .ok (.aload_n 0, 1) := by decide +kernel
theorem d_Mo_sheet_46 : decode m_Mo_sheet.2.1 46 = .ok (.dup, 1) := by decide +kernel
theorem d_Mo_sheet_47 : decode m_Mo_sheet.2.1 47 = .ok (.getfield 158, 3) := by decide +kernel
theorem d_Mo_sheet_50 : decode m_Mo_sheet.2.1 50 = .ok (.iload_n 1, 1) := by decide +kernel
theorem d_Mo_sheet_51 : decode m_Mo_sheet.2.1 51 = .ok (.i2l, 1) := by decide +kernel
theorem d_Mo_sheet_52 : decode m_Mo_sheet.2.1 52 = .ok (.iload_n 2, 1) := by decide +kernel
theorem d_Mo_sheet_53 : decode m_Mo_sheet.2.1 53 = .ok (.i2l, 1) := by decide +kernel
theorem d_Mo_sheet_54 : decode m_Mo_sheet.2.1 54 = .ok (.lmul, 1) := by decide +kernel
theorem d_Mo_sheet_55 : decode m_Mo_sheet.2.1 55 = .ok (.ladd, 1) := by decide +kernel
theorem d_Mo_sheet_56 : decode m_Mo_sheet.2.1 56 = .ok (.putfield 158, 3) := by decide +kernel
theorem d_Mo_sheet_59 : decode m_Mo_sheet.2.1 59 = .ok (.aload_n 0, 1) := by decide +kernel
theorem d_Mo_sheet_60 : decode m_Mo_sheet.2.1 60 = .ok (.getfield 13, 3) := by decide +kernel
theorem d_Mo_sheet_63 : decode m_Mo_sheet.2.1 63 = .ok (.aload_n 0, 1) := by decide +kernel
theorem d_Mo_sheet_64 : decode m_Mo_sheet.2.1 64 = .ok (.iload_n 1, 1) := by decide +kernel
theorem d_Mo_sheet_65 : decode m_Mo_sheet.2.1 65 = .ok (.iload_n 2, 1) := by decide +kernel
theorem d_Mo_sheet_66 : decode m_Mo_sheet.2.1 66 = .ok (.invokevirtual 162, 3) := by decide +kernel
theorem d_Mo_sheet_69 : decode m_Mo_sheet.2.1 69 = .ok (.iaload, 1) := by decide +kernel
theorem d_Mo_sheet_70 : decode m_Mo_sheet.2.1 70 = .ok (.ireturn, 1) := by decide +kernel
theorem d_Mo_isLength_0 : decode m_Mo_isLength.2.1 0 = .ok (.iload_n 0, 1) := by decide +kernel
theorem d_Mo_isLength_1 : decode m_Mo_isLength.2.1 1 = .ok (.iconst 1, 1) := by decide +kernel
theorem d_Mo_isLength_2 : decode m_Mo_isLength.2.1 2 = .ok (.if_icmp .lt 14, 3) := by decide +kernel
theorem d_Mo_isLength_5 : decode m_Mo_isLength.2.1 5 = .ok (.iload_n 0, 1) := by decide +kernel
theorem d_Mo_isLength_6 : decode m_Mo_isLength.2.1 6 = .ok (.sipush 6000, 3) := by decide +kernel
theorem d_Mo_isLength_9 : decode m_Mo_isLength.2.1 9 = .ok (.if_icmp .gt 7, 3) := by decide +kernel
theorem d_Mo_isLength_12 : decode m_Mo_isLength.2.1 12 = .ok (.iconst 1, 1) := by decide +kernel
theorem d_Mo_isLength_13 : decode m_Mo_isLength.2.1 13 = .ok (.goto 4, 3) := by decide +kernel
theorem d_Mo_isLength_16 : decode m_Mo_isLength.2.1 16 = .ok (.iconst 0, 1) := by decide +kernel
theorem d_Mo_isLength_17 : decode m_Mo_isLength.2.1 17 = .ok (.ireturn, 1) := by decide +kernel
theorem d_Mo_sheets_0 : decode m_Mo_sheets.2.1 0 = .ok (.iconst 0, 1) := by decide +kernel
theorem d_Mo_sheets_1 : decode m_Mo_sheets.2.1 1 = .ok (.istore_n 1, 1) := by decide +kernel
theorem d_Mo_sheets_2 : decode m_Mo_sheets.2.1 2 = .ok (.iconst 0, 1) := by decide +kernel
theorem d_Mo_sheets_3 : decode m_Mo_sheets.2.1 3 = .ok (.istore_n 2, 1) := by decide +kernel
theorem d_Mo_sheets_4 : decode m_Mo_sheets.2.1 4 = .ok (.iload_n 2, 1) := by decide +kernel
theorem d_Mo_sheets_5 : decode m_Mo_sheets.2.1 5 = .ok (.bipush 8, 2) := by decide +kernel
theorem d_Mo_sheets_7 : decode m_Mo_sheets.2.1 7 = .ok (.if_icmp .ge 26, 3) := by decide +kernel
theorem d_Mo_sheets_10 : decode m_Mo_sheets.2.1 10 = .ok (.aload_n 0, 1) := by decide +kernel
theorem d_Mo_sheets_11 : decode m_Mo_sheets.2.1 11 = .ok (.getfield 7, 3) := by decide +kernel
theorem d_Mo_sheets_14 : decode m_Mo_sheets.2.1 14 = .ok (.iload_n 2, 1) := by decide +kernel
theorem d_Mo_sheets_15 : decode m_Mo_sheets.2.1 15 = .ok (.baload, 1) := by decide +kernel
theorem d_Mo_sheets_16 : decode m_Mo_sheets.2.1 16 = .ok (.ifCond .eq 9, 3) := by decide +kernel
theorem d_Mo_sheets_19 : decode m_Mo_sheets.2.1 19 = .ok (.iload_n 1, 1) := by decide +kernel
theorem d_Mo_sheets_20 : decode m_Mo_sheets.2.1 20 = .ok (.iconst 1, 1) := by decide +kernel
theorem d_Mo_sheets_21 : decode m_Mo_sheets.2.1 21 = .ok (.iadd, 1) := by decide +kernel
theorem d_Mo_sheets_22 : decode m_Mo_sheets.2.1 22 = .ok (.goto 4, 3) := by decide +kernel
theorem d_Mo_sheets_25 : decode m_Mo_sheets.2.1 25 = .ok (.iload_n 1, 1) := by decide +kernel
theorem d_Mo_sheets_26 : decode m_Mo_sheets.2.1 26 = .ok (.istore_n 1, 1) := by decide +kernel
theorem d_Mo_sheets_27 : decode m_Mo_sheets.2.1 27 = .ok (.iinc 2 1, 3) := by decide +kernel
theorem d_Mo_sheets_30 : decode m_Mo_sheets.2.1 30 = .ok (.goto (-26), 3) := by decide +kernel
theorem d_Mo_sheets_33 : decode m_Mo_sheets.2.1 33 = .ok (.iload_n 1, 1) := by decide +kernel
theorem d_Mo_sheets_34 : decode m_Mo_sheets.2.1 34 = .ok (.ireturn, 1) := by decide +kernel
theorem d_Mo_make_0 : decode m_Mo_make.2.1 0 = .ok (.iconst 0, 1) := by decide +kernel
theorem d_Mo_make_1 : decode m_Mo_make.2.1 1 = .ok (.istore_n 3, 1) := by decide +kernel
theorem d_Mo_make_2 : decode m_Mo_make.2.1 2 = .ok (.aload_n 0, 1) := by decide +kernel
theorem d_Mo_make_3 : decode m_Mo_make.2.1 3 = .ok (.getfield 7, 3) := by decide +kernel
theorem d_Mo_make_6 : decode m_Mo_make.2.1 6 = .ok (.iload_n 3, 1) := by decide +kernel
theorem d_Mo_make_7 : decode m_Mo_make.2.1 7 = .ok (.baload, 1) := by decide +kernel
theorem d_Mo_make_8 : decode m_Mo_make.2.1 8 = .ok (.ifCond .eq 9, 3) := by decide +kernel
theorem d_Mo_make_11 : decode m_Mo_make.2.1 11 = .ok (.iinc 3 1, 3) := by decide +kernel
theorem d_Mo_make_14 : decode m_Mo_make.2.1 14 = .ok (.goto (-12), 3) := by decide +kernel
theorem d_Mo_make_17 : decode m_Mo_make.2.1 17 = .ok (.aload_n 0, 1) := by decide +kernel
theorem d_Mo_make_18 : decode m_Mo_make.2.1 18 = .ok (.getfield 7, 3) := by decide +kernel
theorem d_Mo_make_21 : decode m_Mo_make.2.1 21 = .ok (.iload_n 3, 1) := by decide +kernel
theorem d_Mo_make_22 : decode m_Mo_make.2.1 22 = .ok (.iconst 1, 1) := by decide +kernel
theorem d_Mo_make_23 : decode m_Mo_make.2.1 23 = .ok (.bastore, 1) := by decide +kernel
theorem d_Mo_make_24 : decode m_Mo_make.2.1 24 = .ok (.aload_n 0, 1) := by decide +kernel
theorem d_Mo_make_25 : decode m_Mo_make.2.1 25 = .ok (.getfield 13, 3) := by decide +kernel
theorem d_Mo_make_28 : decode m_Mo_make.2.1 28 = .ok (.iload_n 3, 1) := by decide +kernel
theorem d_Mo_make_29 : decode m_Mo_make.2.1 29 = .ok (.aload_n 0, 1) := by decide +kernel
theorem d_Mo_make_30 : decode m_Mo_make.2.1 30 = .ok (.getfield 147, 3) := by decide +kernel
theorem d_Mo_make_33 : decode m_Mo_make.2.1 33 = .ok (.iastore, 1) := by decide +kernel
theorem d_Mo_make_34 : decode m_Mo_make.2.1 34 = .ok (.aload_n 0, 1) := by decide +kernel
theorem d_Mo_make_35 : decode m_Mo_make.2.1 35 = .ok (.getfield 17, 3) := by decide +kernel
theorem d_Mo_make_38 : decode m_Mo_make.2.1 38 = .ok (.iload_n 3, 1) := by decide +kernel
theorem d_Mo_make_39 : decode m_Mo_make.2.1 39 = .ok (.iload_n 1, 1) := by decide +kernel
theorem d_Mo_make_40 : decode m_Mo_make.2.1 40 = .ok (.iastore, 1) := by decide +kernel
theorem d_Mo_make_41 : decode m_Mo_make.2.1 41 = .ok (.aload_n 0, 1) := by decide +kernel
theorem d_Mo_make_42 : decode m_Mo_make.2.1 42 = .ok (.getfield 20, 3) := by decide +kernel
theorem d_Mo_make_45 : decode m_Mo_make.2.1 45 = .ok (.iload_n 3, 1) := by decide +kernel
theorem d_Mo_make_46 : decode m_Mo_make.2.1 46 = .ok (.iload_n 2, 1) := by decide +kernel
theorem d_Mo_make_47 : decode m_Mo_make.2.1 47 = .ok (.iastore, 1) := by decide +kernel
theorem d_Mo_make_48 : decode m_Mo_make.2.1 48 = .ok (.aload_n 0, 1) := by decide +kernel
theorem d_Mo_make_49 : decode m_Mo_make.2.1 49 = .ok (.getfield 23, 3) := by decide +kernel
theorem d_Mo_make_52 : decode m_Mo_make.2.1 52 = .ok (.iload_n 3, 1) := by decide +kernel
theorem d_Mo_make_53 : decode m_Mo_make.2.1 53 = .ok (.iconst 0, 1) := by decide +kernel
theorem d_Mo_make_54 : decode m_Mo_make.2.1 54 = .ok (.bastore, 1) := by decide +kernel
theorem d_Mo_make_55 : decode m_Mo_make.2.1 55 = .ok (.aload_n 0, 1) := by decide +kernel
theorem d_Mo_make_56 : decode m_Mo_make.2.1 56 = .ok (.getfield 26, 3) := by decide +kernel
theorem d_Mo_make_59 : decode m_Mo_make.2.1 59 = .ok (.iload_n 3, 1) := by decide +kernel
theorem d_Mo_make_60 : decode m_Mo_make.2.1 60 = .ok (.iconst 0, 1) := by decide +kernel
theorem d_Mo_make_61 : decode m_Mo_make.2.1 61 = .ok (.bastore, 1) := by decide +kernel
theorem d_Mo_make_62 : decode m_Mo_make.2.1 62 = .ok (.aload_n 0, 1) := by decide +kernel
theorem d_Mo_make_63 : decode m_Mo_make.2.1 63 = .ok (.getfield 29, 3) := by decide +kernel
theorem d_Mo_make_66 : decode m_Mo_make.2.1 66 = .ok (.iload_n 3, 1) := by decide +kernel
theorem d_Mo_make_67 : decode m_Mo_make.2.1 67 = .ok (.iconst 0, 1) := by decide +kernel
theorem d_Mo_make_68 : decode m_Mo_make.2.1 68 = .ok (.iastore, 1) := by decide +kernel
theorem d_Mo_make_69 : decode m_Mo_make.2.1 69 = .ok (.aload_n 0, 1) := by decide +kernel
theorem d_Mo_make_70 : decode m_Mo_make.2.1 70 = .ok (.dup, 1) := by decide +kernel
theorem d_Mo_make_71 : decode m_Mo_make.2.1 71 = .ok (.getfield 147, 3) := by decide +kernel
theorem d_Mo_make_74 : decode m_Mo_make.2.1 74 = .ok (.iconst 1, 1) := by decide +kernel
theorem d_Mo_make_75 : decode m_Mo_make.2.1 75 = .ok (.iadd, 1) := by decide +kernel
theorem d_Mo_make_76 : decode m_Mo_make.2.1 76 = .ok (.putfield 147, 3) := by decide +kernel
theorem d_Mo_make_79 : decode m_Mo_make.2.1 79 = .ok (.iload_n 3, 1) := by decide +kernel
theorem d_Mo_make_80 : decode m_Mo_make.2.1 80 = .ok (.ireturn, 1) := by decide +kernel
theorem d_Mo_flaw_0 : decode m_Mo_flaw.2.1 0 = .ok (.aload_n 0, 1) := by decide +kernel
theorem d_Mo_flaw_1 : decode m_Mo_flaw.2.1 1 = .ok (.iload_n 1, 1) := by decide +kernel
theorem d_Mo_flaw_2 : decode m_Mo_flaw.2.1 2 = .ok (.invokevirtual 166, 3) := by decide +kernel
theorem d_Mo_flaw_5 : decode m_Mo_flaw.2.1 5 = .ok (.istore 6, 2) := by decide +kernel
theorem d_Mo_flaw_7 : decode m_Mo_flaw.2.1 7 = .ok (.aload_n 0, 1) := by decide +kernel
theorem d_Mo_flaw_8 : decode m_Mo_flaw.2.1 8 = .ok (.iload 6, 2) := by decide +kernel
theorem d_Mo_flaw_10 : decode m_Mo_flaw.2.1 10 = .ok (.ifCond .ge 7, 3) := by decide +kernel
theorem d_Mo_flaw_13 : decode m_Mo_flaw.2.1 13 = .ok (.iconst 1, 1) := by decide +kernel
theorem d_Mo_flaw_14 : decode m_Mo_flaw.2.1 14 = .ok (.goto 4, 3) := by decide +kernel
theorem d_Mo_flaw_17 : decode m_Mo_flaw.2.1 17 = .ok (.iconst 0, 1) := by decide +kernel
theorem d_Mo_flaw_18 : decode m_Mo_flaw.2.1 18 = .ok (.putfield 140, 3) := by decide +kernel
theorem d_Mo_flaw_21 : decode m_Mo_flaw.2.1 21 = .ok (.aload_n 0, 1) := by decide +kernel
theorem d_Mo_flaw_22 : decode m_Mo_flaw.2.1 22 = .ok (.getfield 140, 3) := by decide +kernel
theorem d_Mo_flaw_25 : decode m_Mo_flaw.2.1 25 = .ok (.ifCond .le 5, 3) := by decide +kernel
theorem d_Mo_flaw_28 : decode m_Mo_flaw.2.1 28 = .ok (.iconst 0, 1) := by decide +kernel
theorem d_Mo_flaw_29 : decode m_Mo_flaw.2.1 29 = .ok (.ireturn, 1) := by decide +kernel
theorem d_Mo_flaw_30 : decode m_Mo_flaw.2.1 30 = .ok (.iload 4, 2) := by decide +kernel
theorem d_Mo_flaw_32 : decode m_Mo_flaw.2.1 32 = .ok (.iconst 1, 1) := by decide +kernel
theorem d_Mo_flaw_33 : decode m_Mo_flaw.2.1 33 = .ok (.if_icmp .lt 57, 3) := by decide +kernel
theorem d_Mo_flaw_36 : decode m_Mo_flaw.2.1 36 = .ok (.iload 5, 2) := by decide +kernel
theorem d_Mo_flaw_38 : decode m_Mo_flaw.2.1 38 = .ok (.iconst 1, 1) := by decide +kernel
theorem d_Mo_flaw_39 : decode m_Mo_flaw.2.1 39 = .ok (.if_icmp .lt 51, 3) := by decide +kernel
theorem d_Mo_flaw_42 : decode m_Mo_flaw.2.1 42 = .ok (.iload_n 2, 1) := by decide +kernel
theorem d_Mo_flaw_43 : decode m_Mo_flaw.2.1 43 = .ok (.ifCond .lt 47, 3) := by decide +kernel
theorem d_Mo_flaw_46 : decode m_Mo_flaw.2.1 46 = .ok (.iload_n 3, 1) := by decide +kernel
theorem d_Mo_flaw_47 : decode m_Mo_flaw.2.1 47 = .ok (.ifCond .lt 43, 3) := by decide +kernel
theorem d_Mo_flaw_50 : decode m_Mo_flaw.2.1 50 = .ok (.iload_n 2, 1) := by decide +kernel
theorem d_Mo_flaw_51 : decode m_Mo_flaw.2.1 51 = .ok (.i2l, 1) := by decide +kernel
theorem d_Mo_flaw_52 : decode m_Mo_flaw.2.1 52 = .ok (.iload 4, 2) := by decide +kernel
theorem d_Mo_flaw_54 : decode m_Mo_flaw.2.1 54 = .ok (.i2l, 1) := by decide +kernel
theorem d_Mo_flaw_55 : decode m_Mo_flaw.2.1 55 = .ok (.ladd, 1) := by decide +kernel
theorem d_Mo_flaw_56 : decode m_Mo_flaw.2.1 56 = .ok (.aload_n 0, 1) := by decide +kernel
theorem d_Mo_flaw_57 : decode m_Mo_flaw.2.1 57 = .ok (.getfield 17, 3) := by decide +kernel
theorem d_Mo_flaw_60 : decode m_Mo_flaw.2.1 60 = .ok (.iload 6, 2) := by decide +kernel
theorem d_Mo_flaw_62 : decode m_Mo_flaw.2.1 62 = .ok (.iaload, 1) := by decide +kernel
theorem d_Mo_flaw_63 : decode m_Mo_flaw.2.1 63 = .ok (.i2l, 1) := by decide +kernel
theorem d_Mo_flaw_64 : decode m_Mo_flaw.2.1 64 = .ok (.lcmp, 1) := by decide +kernel
theorem d_Mo_flaw_65 : decode m_Mo_flaw.2.1 65 = .ok (.ifCond .gt 25, 3) := by decide +kernel
theorem d_Mo_flaw_68 : decode m_Mo_flaw.2.1 68 = .ok (.iload_n 3, 1) := by decide +kernel
theorem d_Mo_flaw_69 : decode m_Mo_flaw.2.1 69 = .ok (.i2l, 1) := by decide +kernel
theorem d_Mo_flaw_70 : decode m_Mo_flaw.2.1 70 = .ok (.iload 5, 2) := by decide +kernel
theorem d_Mo_flaw_72 : decode m_Mo_flaw.2.1 72 = .ok (.i2l, 1) := by decide +kernel
theorem d_Mo_flaw_73 : decode m_Mo_flaw.2.1 73 = .ok (.ladd, 1) := by decide +kernel
theorem d_Mo_flaw_74 : decode m_Mo_flaw.2.1 74 = .ok (.aload_n 0, 1) := by decide +kernel
theorem d_Mo_flaw_75 : decode m_Mo_flaw.2.1 75 = .ok (.getfield 20, 3) := by decide +kernel
theorem d_Mo_flaw_78 : decode m_Mo_flaw.2.1 78 = .ok (.iload 6, 2) := by decide +kernel
theorem d_Mo_flaw_80 : decode m_Mo_flaw.2.1 80 = .ok (.iaload, 1) := by decide +kernel
theorem d_Mo_flaw_81 : decode m_Mo_flaw.2.1 81 = .ok (.i2l, 1) := by decide +kernel
theorem d_Mo_flaw_82 : decode m_Mo_flaw.2.1 82 = .ok (.lcmp, 1) := by decide +kernel
theorem d_Mo_flaw_83 : decode m_Mo_flaw.2.1 83 = .ok (.ifCond .gt 7, 3) := by decide +kernel
theorem d_Mo_flaw_86 : decode m_Mo_flaw.2.1 86 = .ok (.iconst 1, 1) := by decide +kernel
theorem d_Mo_flaw_87 : decode m_Mo_flaw.2.1 87 = .ok (.goto 4, 3) := by decide +kernel
theorem d_Mo_flaw_90 : decode m_Mo_flaw.2.1 90 = .ok (.iconst 0, 1) := by decide +kernel
theorem d_Mo_flaw_91 : decode m_Mo_flaw.2.1 91 = .ok (.istore 7, 2) := by decide +kernel
theorem d_Mo_flaw_93 : decode m_Mo_flaw.2.1 93 = .ok (.aload_n 0, 1) := by decide +kernel
theorem d_Mo_flaw_94 : decode m_Mo_flaw.2.1 94 = .ok (.iload 7, 2) := by decide +kernel
theorem d_Mo_flaw_96 : decode m_Mo_flaw.2.1 96 = .ok (.ifCond .ne 7, 3) := by decide +kernel
theorem d_Mo_flaw_99 : decode m_Mo_flaw.2.1 99 = .ok (.iconst 2, 1) := by decide +kernel
theorem d_Mo_flaw_100 : decode m_Mo_flaw.2.1 100 = .ok (.goto 30, 3) := by decide +kernel
theorem d_Mo_flaw_103 : decode m_Mo_flaw.2.1 103 = .ok (.aload_n 0, 1) := by decide +kernel
theorem d_Mo_flaw_104 : decode m_Mo_flaw.2.1 104 = .ok (.getfield 23, 3) := by decide +kernel
theorem d_Mo_flaw_107 : decode m_Mo_flaw.2.1 107 = .ok (.iload 6, 2) := by decide +kernel
theorem d_Mo_flaw_109 : decode m_Mo_flaw.2.1 109 = .ok (.baload, 1) := by decide +kernel
theorem d_Mo_flaw_110 : decode m_Mo_flaw.2.1 110 = .ok (.ifCond .ne 15, 3) := by decide +kernel
theorem d_Mo_flaw_113 : decode m_Mo_flaw.2.1 113 = .ok (.aload_n 0, 1) := by decide +kernel
theorem d_Mo_flaw_114 : decode m_Mo_flaw.2.1 114 = .ok (.getfield 29, 3) := by decide +kernel
theorem d_Mo_flaw_117 : decode m_Mo_flaw.2.1 117 = .ok (.iload 6, 2) := by decide +kernel
theorem d_Mo_flaw_119 : decode m_Mo_flaw.2.1 119 = .ok (.iaload, 1) := by decide +kernel
theorem d_Mo_flaw_120 : decode m_Mo_flaw.2.1 120 = .ok (.bipush 6, 2) := by decide +kernel
theorem d_Mo_flaw_122 : decode m_Mo_flaw.2.1 122 = .ok (.if_icmp .ne 7, 3) := by decide +kernel
theorem d_Mo_flaw_125 : decode m_Mo_flaw.2.1 125 = .ok (.iconst 3, 1) := by decide +kernel
theorem d_Mo_flaw_126 : decode m_Mo_flaw.2.1 126 = .ok (.goto 4, 3) := by decide +kernel
theorem d_Mo_flaw_129 : decode m_Mo_flaw.2.1 129 = .ok (.iconst 0, 1) := by decide +kernel
theorem d_Mo_flaw_130 : decode m_Mo_flaw.2.1 130 = .ok (.putfield 140, 3) := by decide +kernel
theorem d_Mo_flaw_133 : decode m_Mo_flaw.2.1 133 = .ok (.aload_n 0, 1) := by decide +kernel
theorem d_Mo_flaw_134 : decode m_Mo_flaw.2.1 134 = .ok (.getfield 140, 3) := by decide +kernel
theorem d_Mo_flaw_137 : decode m_Mo_flaw.2.1 137 = .ok (.ifCond .le 5, 3) := by decide +kernel
theorem d_Mo_flaw_140 : decode m_Mo_flaw.2.1 140 = .ok (.iconst 0, 1) := by decide +kernel
theorem d_Mo_flaw_141 : decode m_Mo_flaw.2.1 141 = .ok (.ireturn, 1) := by decide +kernel
theorem d_Mo_flaw_142 : decode m_Mo_flaw.2.1 142 = .ok (.aload_n 0, 1) := by decide +kernel
theorem d_Mo_flaw_143 : decode m_Mo_flaw.2.1 143 = .ok (.iload 6, 2) := by decide +kernel
theorem d_Mo_flaw_145 : decode m_Mo_flaw.2.1 145 = .ok (.iload_n 2, 1) := by decide +kernel
theorem d_Mo_flaw_146 : decode m_Mo_flaw.2.1 146 = .ok (.iload_n 3, 1) := by decide +kernel
theorem d_Mo_flaw_147 : decode m_Mo_flaw.2.1 147 = .ok (.iload 4, 2) := by decide +kernel
theorem d_Mo_flaw_149 : decode m_Mo_flaw.2.1 149 = .ok (.iload 5, 2) := by decide +kernel
theorem d_Mo_flaw_151 : decode m_Mo_flaw.2.1 151 = .ok (.invokevirtual 170, 3) := by decide +kernel
theorem d_Mo_flaw_154 : decode m_Mo_flaw.2.1 154 = .ok (.aload_n 0, 1) := by decide +kernel
theorem d_Mo_flaw_155 : decode m_Mo_flaw.2.1 155 = .ok (.getfield 29, 3) := by decide +kernel
theorem d_Mo_flaw_158 : decode m_Mo_flaw.2.1 158 = .ok (.iload 6, 2) := by decide +kernel
theorem d_Mo_flaw_160 : decode m_Mo_flaw.2.1 160 = .ok (.iaload, 1) := by decide +kernel
theorem d_Mo_flaw_161 : decode m_Mo_flaw.2.1 161 = .ok (.ireturn, 1) := by decide +kernel
theorem d_Mo_find_0 : decode m_Mo_find.2.1 0 = .ok (.iconst (-1), 1) := by decide +kernel
theorem d_Mo_find_1 : decode m_Mo_find.2.1 1 = .ok (.istore_n 2, 1) := by decide +kernel
theorem d_Mo_find_2 : decode m_Mo_find.2.1 2 = .ok (.iconst 0, 1) := by decide +kernel
theorem d_Mo_find_3 : decode m_Mo_find.2.1 3 = .ok (.istore_n 3, 1) := by decide +kernel
theorem d_Mo_find_4 : decode m_Mo_find.2.1 4 = .ok (.iload_n 3, 1) := by decide +kernel
theorem d_Mo_find_5 : decode m_Mo_find.2.1 5 = .ok (.bipush 8, 2) := by decide +kernel
theorem d_Mo_find_7 : decode m_Mo_find.2.1 7 = .ok (.if_icmp .ge 34, 3) := by decide +kernel
theorem d_Mo_find_10 : decode m_Mo_find.2.1 10 = .ok (.aload_n 0, 1) := by decide +kernel
theorem d_Mo_find_11 : decode m_Mo_find.2.1 11 = .ok (.getfield 7, 3) := by decide +kernel
theorem d_Mo_find_14 : decode m_Mo_find.2.1 14 = .ok (.iload_n 3, 1) := by decide +kernel
theorem d_Mo_find_15 : decode m_Mo_find.2.1 15 = .ok (.baload, 1) := by decide +kernel
theorem d_Mo_find_16 : decode m_Mo_find.2.1 16 = .ok (.ifCond .eq 17, 3) := by decide +kernel
theorem d_Mo_find_19 : decode m_Mo_find.2.1 19 = .ok (.aload_n 0, 1) := by decide +kernel
theorem d_Mo_find_20 : decode m_Mo_find.2.1 20 = .ok (.getfield 13, 3) := by decide +kernel
theorem d_Mo_find_23 : decode m_Mo_find.2.1 23 = .ok (.iload_n 3, 1) := by decide +kernel
theorem d_Mo_find_24 : decode m_Mo_find.2.1 24 = .ok (.iaload, 1) := by decide +kernel
theorem d_Mo_find_25 : decode m_Mo_find.2.1 25 = .ok (.iload_n 1, 1) := by decide +kernel
theorem d_Mo_find_26 : decode m_Mo_find.2.1 26 = .ok (.if_icmp .ne 7, 3) := by decide +kernel
theorem d_Mo_find_29 : decode m_Mo_find.2.1 29 = .ok (.iload_n 3, 1) := by decide +kernel
theorem d_Mo_find_30 : decode m_Mo_find.2.1 30 = .ok (.goto 4, 3) := by decide +kernel
theorem d_Mo_find_33 : decode m_Mo_find.2.1 33 = .ok (.iload_n 2, 1) := by decide +kernel
theorem d_Mo_find_34 : decode m_Mo_find.2.1 34 = .ok (.istore_n 2, 1) := by decide +kernel
theorem d_Mo_find_35 : decode m_Mo_find.2.1 35 = .ok (.iinc 3 1, 3) := by decide +kernel
theorem d_Mo_find_38 : decode m_Mo_find.2.1 38 = .ok (.goto (-34), 3) := by decide +kernel
theorem d_Mo_find_41 : decode m_Mo_find.2.1 41 = .ok (.iload_n 2, 1) := by decide +kernel
theorem d_Mo_find_42 : decode m_Mo_find.2.1 42 = .ok (.ireturn, 1) := by decide +kernel
theorem d_Mo_putFlaw_0 : decode m_Mo_putFlaw.2.1 0 = .ok (.bipush 24, 2) := by decide +kernel
theorem d_Mo_putFlaw_2 : decode m_Mo_putFlaw.2.1 2 = .ok (.iload_n 1, 1) := by decide +kernel
theorem d_Mo_putFlaw_3 : decode m_Mo_putFlaw.2.1 3 = .ok (.imul, 1) := by decide +kernel
theorem d_Mo_putFlaw_4 : decode m_Mo_putFlaw.2.1 4 = .ok (.iconst 4, 1) := by decide +kernel
theorem d_Mo_putFlaw_5 : decode m_Mo_putFlaw.2.1 5 = .ok (.aload_n 0, 1) := by decide +kernel
theorem d_Mo_putFlaw_6 : decode m_Mo_putFlaw.2.1 6 = .ok (.getfield 29, 3) := by decide +kernel
theorem d_Mo_putFlaw_9 : decode m_Mo_putFlaw.2.1 9 = .ok (.iload_n 1, 1) := by decide +kernel
theorem d_Mo_putFlaw_10 : decode m_Mo_putFlaw.2.1 10 = .ok (.iaload, 1) := by decide +kernel
theorem d_Mo_putFlaw_11 : decode m_Mo_putFlaw.2.1 11 = .ok (.imul, 1) := by decide +kernel
theorem d_Mo_putFlaw_12 : decode m_Mo_putFlaw.2.1 12 = .ok (.iadd, 1) := by decide +kernel
theorem d_Mo_putFlaw_13 : decode m_Mo_putFlaw.2.1 13 = .ok (.istore 6, 2) := by decide +kernel
theorem d_Mo_putFlaw_15 : decode m_Mo_putFlaw.2.1 15 = .ok (.aload_n 0, 1) := by decide +kernel
theorem d_Mo_putFlaw_16 : decode m_Mo_putFlaw.2.1 16 = .ok (.getfield 32, 3) := by decide +kernel
theorem d_Mo_putFlaw_19 : decode m_Mo_putFlaw.2.1 19 = .ok (.iload 6, 2) := by decide +kernel
theorem d_Mo_putFlaw_21 : decode m_Mo_putFlaw.2.1 21 = .ok (.iload_n 2, 1) := by decide +kernel
theorem d_Mo_putFlaw_22 : decode m_Mo_putFlaw.2.1 22 = .ok (.iastore, 1) := by decide +kernel
theorem d_Mo_putFlaw_23 : decode m_Mo_putFlaw.2.1 23 = .ok (.aload_n 0, 1) := by decide +kernel
theorem d_Mo_putFlaw_24 : decode m_Mo_putFlaw.2.1 24 = .ok (.getfield 32, 3) := by decide +kernel
theorem d_Mo_putFlaw_27 : decode m_Mo_putFlaw.2.1 27 = .ok (.iload 6, 2) := by decide +kernel
theorem d_Mo_putFlaw_29 : decode m_Mo_putFlaw.2.1 29 = .ok (.iconst 1, 1) := by decide +kernel
theorem d_Mo_putFlaw_30 : decode m_Mo_putFlaw.2.1 30 = .ok (.iadd, 1) := by decide +kernel
theorem d_Mo_putFlaw_31 : decode m_Mo_putFlaw.2.1 31 = .ok (.iload_n 3, 1) := by decide +kernel
theorem d_Mo_putFlaw_32 : decode m_Mo_putFlaw.2.1 32 = .ok (.iastore, 1) := by decide +kernel
theorem d_Mo_putFlaw_33 : decode m_Mo_putFlaw.2.1 33 = .ok (.aload_n 0, 1) := by decide +kernel
theorem d_Mo_putFlaw_34 : decode m_Mo_putFlaw.2.1 34 = .ok (.getfield 32, 3) := by decide +kernel
theorem d_Mo_putFlaw_37 : decode m_Mo_putFlaw.2.1 37 = .ok (.iload 6, 2) := by decide +kernel
theorem d_Mo_putFlaw_39 : decode m_Mo_putFlaw.2.1 39 = .ok (.iconst 2, 1) := by decide +kernel
theorem d_Mo_putFlaw_40 : decode m_Mo_putFlaw.2.1 40 = .ok (.iadd, 1) := by decide +kernel
theorem d_Mo_putFlaw_41 : decode m_Mo_putFlaw.2.1 41 = .ok (.iload 4, 2) := by decide +kernel
theorem d_Mo_putFlaw_43 : decode m_Mo_putFlaw.2.1 43 = .ok (.iastore, 1) := by decide +kernel
theorem d_Mo_putFlaw_44 : decode m_Mo_putFlaw.2.1 44 = .ok (.aload_n 0, 1) := by decide +kernel
theorem d_Mo_putFlaw_45 : decode m_Mo_putFlaw.2.1 45 = .ok (.getfield 32, 3) := by decide +kernel
theorem d_Mo_putFlaw_48 : decode m_Mo_putFlaw.2.1 48 = .ok (.iload 6, 2) := by decide +kernel
theorem d_Mo_putFlaw_50 : decode m_Mo_putFlaw.2.1 50 = .ok (.iconst 3, 1) := by decide +kernel
theorem d_Mo_putFlaw_51 : decode m_Mo_putFlaw.2.1 51 = .ok (.iadd, 1) := by decide +kernel
theorem d_Mo_putFlaw_52 : decode m_Mo_putFlaw.2.1 52 = .ok (.iload 5, 2) := by decide +kernel
theorem d_Mo_putFlaw_54 : decode m_Mo_putFlaw.2.1 54 = .ok (.iastore, 1) := by decide +kernel
theorem d_Mo_putFlaw_55 : decode m_Mo_putFlaw.2.1 55 = .ok (.aload_n 0, 1) := by decide +kernel
theorem d_Mo_putFlaw_56 : decode m_Mo_putFlaw.2.1 56 = .ok (.getfield 29, 3) := by decide +kernel
theorem d_Mo_putFlaw_59 : decode m_Mo_putFlaw.2.1 59 = .ok (.iload_n 1, 1) := by decide +kernel
theorem d_Mo_putFlaw_60 : decode m_Mo_putFlaw.2.1 60 = .ok (.dup2, 1) := by decide +kernel
theorem d_Mo_putFlaw_61 : decode m_Mo_putFlaw.2.1 61 = .ok (.iaload, 1) := by decide +kernel
theorem d_Mo_putFlaw_62 : decode m_Mo_putFlaw.2.1 62 = .ok (.iconst 1, 1) := by decide +kernel
theorem d_Mo_putFlaw_63 : decode m_Mo_putFlaw.2.1 63 = .ok (.iadd, 1) := by decide +kernel
theorem d_Mo_putFlaw_64 : decode m_Mo_putFlaw.2.1 64 = .ok (.iastore, 1) := by decide +kernel
theorem d_Mo_putFlaw_65 : decode m_Mo_putFlaw.2.1 65 = .ok (.return_, 1) := by decide +kernel
theorem d_Mo_order_0 : decode m_Mo_order.2.1 0 = .ok (.iload_n 1, 1) := by decide +kernel
theorem d_Mo_order_1 : decode m_Mo_order.2.1 1 = .ok (.invokestatic 150, 3) := by decide +kernel
theorem d_Mo_order_4 : decode m_Mo_order.2.1 4 = .ok (.ifCond .eq 27, 3) := by decide +kernel
theorem d_Mo_order_7 : decode m_Mo_order.2.1 7 = .ok (.iload_n 2, 1) := by decide +kernel
theorem d_Mo_order_8 : decode m_Mo_order.2.1 8 = .ok (.invokestatic 150, 3) := by decide +kernel
theorem d_Mo_order_11 : decode m_Mo_order.2.1 11 = .ok (.ifCond .eq 20, 3) := by decide +kernel
theorem d_Mo_order_14 : decode m_Mo_order.2.1 14 = .ok (.iload 4, 2) := by decide +kernel
theorem d_Mo_order_16 : decode m_Mo_order.2.1 16 = .ok (.iconst 1, 1) := by decide +kernel
theorem d_Mo_order_17 : decode m_Mo_order.2.1 17 = .ok (.if_icmp .lt 14, 3) := by decide +kernel
theorem d_Mo_order_20 : decode m_Mo_order.2.1 20 = .ok (.iload 4, 2) := by decide +kernel
theorem d_Mo_order_22 : decode m_Mo_order.2.1 22 = .ok (.bipush 6, 2) := by decide +kernel
theorem d_Mo_order_24 : decode m_Mo_order.2.1 24 = .ok (.if_icmp .gt 7, 3) := by decide +kernel
theorem d_Mo_order_27 : decode m_Mo_order.2.1 27 = .ok (.iconst 1, 1) := by decide +kernel
theorem d_Mo_order_28 : decode m_Mo_order.2.1 28 = .ok (.goto 4, 3) := by decide +kernel
theorem d_Mo_order_31 : decode m_Mo_order.2.1 31 = .ok (.iconst 0, 1) := by decide +kernel
theorem d_Mo_order_32 : decode m_Mo_order.2.1 32 = .ok (.istore 5, 2) := by decide +kernel
theorem d_Mo_order_34 : decode m_Mo_order.2.1 34 = .ok (.aload_n 0, 1) := by decide +kernel
theorem d_Mo_order_35 : decode m_Mo_order.2.1 35 = .ok (.iload 5, 2) := by decide +kernel
theorem d_Mo_order_37 : decode m_Mo_order.2.1 37 = .ok (.ifCond .ne 7, 3) := by decide +kernel
theorem d_Mo_order_40 : decode m_Mo_order.2.1 40 = .ok (.iconst 1, 1) := by decide +kernel
theorem d_Mo_order_41 : decode m_Mo_order.2.1 41 = .ok (.goto 17, 3) := by decide +kernel
theorem d_Mo_order_44 : decode m_Mo_order.2.1 44 = .ok (.aload_n 0, 1) := by decide +kernel
theorem d_Mo_order_45 : decode m_Mo_order.2.1 45 = .ok (.getfield 144, 3) := by decide +kernel
theorem d_Mo_order_48 : decode m_Mo_order.2.1 48 = .ok (.bipush 6, 2) := by decide +kernel
theorem d_Mo_order_50 : decode m_Mo_order.2.1 50 = .ok (.if_icmp .ne 7, 3) := by decide +kernel
theorem d_Mo_order_53 : decode m_Mo_order.2.1 53 = .ok (.iconst 2, 1) := by decide +kernel
theorem d_Mo_order_54 : decode m_Mo_order.2.1 54 = .ok (.goto 4, 3) := by decide +kernel
theorem d_Mo_order_57 : decode m_Mo_order.2.1 57 = .ok (.iconst 0, 1) := by decide +kernel
theorem d_Mo_order_58 : decode m_Mo_order.2.1 58 = .ok (.putfield 140, 3) := by decide +kernel
theorem d_Mo_order_61 : decode m_Mo_order.2.1 61 = .ok (.aload_n 0, 1) := by decide +kernel
theorem d_Mo_order_62 : decode m_Mo_order.2.1 62 = .ok (.getfield 140, 3) := by decide +kernel
theorem d_Mo_order_65 : decode m_Mo_order.2.1 65 = .ok (.ifCond .le 5, 3) := by decide +kernel
theorem d_Mo_order_68 : decode m_Mo_order.2.1 68 = .ok (.iconst 0, 1) := by decide +kernel
theorem d_Mo_order_69 : decode m_Mo_order.2.1 69 = .ok (.ireturn, 1) := by decide +kernel
theorem d_Mo_order_70 : decode m_Mo_order.2.1 70 = .ok (.aload_n 0, 1) := by decide +kernel
theorem d_Mo_order_71 : decode m_Mo_order.2.1 71 = .ok (.getfield 65, 3) := by decide +kernel
theorem d_Mo_order_74 : decode m_Mo_order.2.1 74 = .ok (.aload_n 0, 1) := by decide +kernel
theorem d_Mo_order_75 : decode m_Mo_order.2.1 75 = .ok (.getfield 144, 3) := by decide +kernel
theorem d_Mo_order_78 : decode m_Mo_order.2.1 78 = .ok (.iload_n 1, 1) := by decide +kernel
theorem d_Mo_order_79 : decode m_Mo_order.2.1 79 = .ok (.iastore, 1) := by decide +kernel
theorem d_Mo_order_80 : decode m_Mo_order.2.1 80 = .ok (.aload_n 0, 1) := by decide +kernel
theorem d_Mo_order_81 : decode m_Mo_order.2.1 81 = .ok (.getfield 68, 3) := by decide +kernel
theorem d_Mo_order_84 : decode m_Mo_order.2.1 84 = .ok (.aload_n 0, 1) := by decide +kernel
theorem d_Mo_order_85 : decode m_Mo_order.2.1 85 = .ok (.getfield 144, 3) := by decide +kernel
theorem d_Mo_order_88 : decode m_Mo_order.2.1 88 = .ok (.iload_n 2, 1) := by decide +kernel
theorem d_Mo_order_89 : decode m_Mo_order.2.1 89 = .ok (.iastore, 1) := by decide +kernel
theorem d_Mo_order_90 : decode m_Mo_order.2.1 90 = .ok (.aload_n 0, 1) := by decide +kernel
theorem d_Mo_order_91 : decode m_Mo_order.2.1 91 = .ok (.getfield 71, 3) := by decide +kernel
theorem d_Mo_order_94 : decode m_Mo_order.2.1 94 = .ok (.aload_n 0, 1) := by decide +kernel
theorem d_Mo_order_95 : decode m_Mo_order.2.1 95 = .ok (.getfield 144, 3) := by decide +kernel
theorem d_Mo_order_98 : decode m_Mo_order.2.1 98 = .ok (.iload_n 3, 1) := by decide +kernel
theorem d_Mo_order_99 : decode m_Mo_order.2.1 99 = .ok (.bastore, 1) := by decide +kernel
theorem d_Mo_order_100 : decode m_Mo_order.2.1 100 = .ok (.aload_n 0, 1) := by decide +kernel
theorem d_Mo_order_101 : decode m_Mo_order.2.1 101 = .ok (.getfield 74, 3) := by decide +kernel
theorem d_Mo_order_104 : decode m_Mo_order.2.1 104 = .ok (.aload_n 0, 1) := by decide +kernel
theorem d_Mo_order_105 : decode m_Mo_order.2.1 105 = .ok (.getfield 144, 3) := by decide +kernel
theorem d_Mo_order_108 : decode m_Mo_order.2.1 108 = .ok (.iload 4, 2) := by decide +kernel
theorem d_Mo_order_110 : decode m_Mo_order.2.1 110 = .ok (.iastore, 1) := by decide +kernel
theorem d_Mo_order_111 : decode m_Mo_order.2.1 111 = .ok (.aload_n 0, 1) := by decide +kernel
theorem d_Mo_order_112 : decode m_Mo_order.2.1 112 = .ok (.dup, 1) := by decide +kernel
theorem d_Mo_order_113 : decode m_Mo_order.2.1 113 = .ok (.getfield 144, 3) := by decide +kernel
theorem d_Mo_order_116 : decode m_Mo_order.2.1 116 = .ok (.iconst 1, 1) := by decide +kernel
theorem d_Mo_order_117 : decode m_Mo_order.2.1 117 = .ok (.iadd, 1) := by decide +kernel
theorem d_Mo_order_118 : decode m_Mo_order.2.1 118 = .ok (.putfield 144, 3) := by decide +kernel
theorem d_Mo_order_121 : decode m_Mo_order.2.1 121 = .ok (.aload_n 0, 1) := by decide +kernel
theorem d_Mo_order_122 : decode m_Mo_order.2.1 122 = .ok (.getfield 144, 3) := by decide +kernel
theorem d_Mo_order_125 : decode m_Mo_order.2.1 125 = .ok (.iconst 1, 1) := by decide +kernel
theorem d_Mo_order_126 : decode m_Mo_order.2.1 126 = .ok (.isub, 1) := by decide +kernel
end
section
theorem d_Mo_order_127 : decode m_Mo_order.2.1 127 = .ok (.ireturn, 1) := by decide +kernel
theorem d_Mo_plan_0 : decode m_Mo_plan.2.1 0 = .ok (.aload_n 0, 1) := by decide +kernel
theorem d_Mo_plan_1 : decode m_Mo_plan.2.1 1 = .ok (.iload_n 1, 1) := by decide +kernel
theorem d_Mo_plan_2 : decode m_Mo_plan.2.1 2 = .ok (.invokevirtual 166, 3) := by decide +kernel
theorem d_Mo_plan_5 : decode m_Mo_plan.2.1 5 = .ok (.istore_n 2, 1) := by decide +kernel
theorem d_Mo_plan_6 : decode m_Mo_plan.2.1 6 = .ok (.aload_n 0, 1) := by decide +kernel
theorem d_Mo_plan_7 : decode m_Mo_plan.2.1 7 = .ok (.iload_n 2, 1) := by decide +kernel
theorem d_Mo_plan_8 : decode m_Mo_plan.2.1 8 = .ok (.ifCond .ge 7, 3) := by decide +kernel
theorem d_Mo_plan_11 : decode m_Mo_plan.2.1 11 = .ok (.iconst 1, 1) := by decide +kernel
theorem d_Mo_plan_12 : decode m_Mo_plan.2.1 12 = .ok (.goto 17, 3) := by decide +kernel
theorem d_Mo_plan_15 : decode m_Mo_plan.2.1 15 = .ok (.aload_n 0, 1) := by decide +kernel
theorem d_Mo_plan_16 : decode m_Mo_plan.2.1 16 = .ok (.getfield 23, 3) := by decide +kernel
theorem d_Mo_plan_19 : decode m_Mo_plan.2.1 19 = .ok (.iload_n 2, 1) := by decide +kernel
theorem d_Mo_plan_20 : decode m_Mo_plan.2.1 20 = .ok (.baload, 1) := by decide +kernel
theorem d_Mo_plan_21 : decode m_Mo_plan.2.1 21 = .ok (.ifCond .eq 7, 3) := by decide +kernel
theorem d_Mo_plan_24 : decode m_Mo_plan.2.1 24 = .ok (.iconst 2, 1) := by decide +kernel
theorem d_Mo_plan_25 : decode m_Mo_plan.2.1 25 = .ok (.goto 4, 3) := by decide +kernel
theorem d_Mo_plan_28 : decode m_Mo_plan.2.1 28 = .ok (.iconst 0, 1) := by decide +kernel
theorem d_Mo_plan_29 : decode m_Mo_plan.2.1 29 = .ok (.putfield 140, 3) := by decide +kernel
theorem d_Mo_plan_32 : decode m_Mo_plan.2.1 32 = .ok (.aload_n 0, 1) := by decide +kernel
theorem d_Mo_plan_33 : decode m_Mo_plan.2.1 33 = .ok (.getfield 140, 3) := by decide +kernel
theorem d_Mo_plan_36 : decode m_Mo_plan.2.1 36 = .ok (.ifCond .le 5, 3) := by decide +kernel
theorem d_Mo_plan_39 : decode m_Mo_plan.2.1 39 = .ok (.iconst 0, 1) := by decide +kernel
theorem d_Mo_plan_40 : decode m_Mo_plan.2.1 40 = .ok (.ireturn, 1) := by decide +kernel
theorem d_Mo_plan_41 : decode m_Mo_plan.2.1 41 = .ok (.aload_n 0, 1) := by decide +kernel
theorem d_Mo_plan_42 : decode m_Mo_plan.2.1 42 = .ok (.iload_n 2, 1) := by decide +kernel
theorem d_Mo_plan_43 : decode m_Mo_plan.2.1 43 = .ok (.invokevirtual 241, 3) := by decide +kernel
theorem d_Mo_plan_46 : decode m_Mo_plan.2.1 46 = .ok (.aload_n 0, 1) := by decide +kernel
theorem d_Mo_plan_47 : decode m_Mo_plan.2.1 47 = .ok (.getfield 174, 3) := by decide +kernel
theorem d_Mo_plan_50 : decode m_Mo_plan.2.1 50 = .ok (.ifCond .ne 7, 3) := by decide +kernel
theorem d_Mo_plan_53 : decode m_Mo_plan.2.1 53 = .ok (.iconst 0, 1) := by decide +kernel
theorem d_Mo_plan_54 : decode m_Mo_plan.2.1 54 = .ok (.goto 8, 3) := by decide +kernel
theorem d_Mo_plan_57 : decode m_Mo_plan.2.1 57 = .ok (.aload_n 0, 1) := by decide +kernel
theorem d_Mo_plan_58 : decode m_Mo_plan.2.1 58 = .ok (.iload_n 2, 1) := by decide +kernel
theorem d_Mo_plan_59 : decode m_Mo_plan.2.1 59 = .ok (.invokevirtual 244, 3) := by decide +kernel
theorem d_Mo_plan_62 : decode m_Mo_plan.2.1 62 = .ok (.ireturn, 1) := by decide +kernel
theorem d_Mo_strips_0 : decode m_Mo_strips.2.1 0 = .ok (.aload_n 0, 1) := by decide +kernel
theorem d_Mo_strips_1 : decode m_Mo_strips.2.1 1 = .ok (.iconst 0, 1) := by decide +kernel
theorem d_Mo_strips_2 : decode m_Mo_strips.2.1 2 = .ok (.putfield 174, 3) := by decide +kernel
theorem d_Mo_strips_5 : decode m_Mo_strips.2.1 5 = .ok (.iconst 0, 1) := by decide +kernel
theorem d_Mo_strips_6 : decode m_Mo_strips.2.1 6 = .ok (.istore_n 2, 1) := by decide +kernel
theorem d_Mo_strips_7 : decode m_Mo_strips.2.1 7 = .ok (.iload_n 2, 1) := by decide +kernel
theorem d_Mo_strips_8 : decode m_Mo_strips.2.1 8 = .ok (.bipush 6, 2) := by decide +kernel
theorem d_Mo_strips_10 : decode m_Mo_strips.2.1 10 = .ok (.if_icmp .ge 16, 3) := by decide +kernel
theorem d_Mo_strips_13 : decode m_Mo_strips.2.1 13 = .ok (.aload_n 0, 1) := by decide +kernel
theorem d_Mo_strips_14 : decode m_Mo_strips.2.1 14 = .ok (.getfield 110, 3) := by decide +kernel
theorem d_Mo_strips_17 : decode m_Mo_strips.2.1 17 = .ok (.iload_n 2, 1) := by decide +kernel
theorem d_Mo_strips_18 : decode m_Mo_strips.2.1 18 = .ok (.iconst 0, 1) := by decide +kernel
theorem d_Mo_strips_19 : decode m_Mo_strips.2.1 19 = .ok (.iastore, 1) := by decide +kernel
theorem d_Mo_strips_20 : decode m_Mo_strips.2.1 20 = .ok (.iinc 2 1, 3) := by decide +kernel
theorem d_Mo_strips_23 : decode m_Mo_strips.2.1 23 = .ok (.goto (-16), 3) := by decide +kernel
theorem d_Mo_strips_26 : decode m_Mo_strips.2.1 26 = .ok (.iconst 0, 1) := by decide +kernel
theorem d_Mo_strips_27 : decode m_Mo_strips.2.1 27 = .ok (.istore_n 2, 1) := by decide +kernel
theorem d_Mo_strips_28 : decode m_Mo_strips.2.1 28 = .ok (.iconst 0, 1) := by decide +kernel
theorem d_Mo_strips_29 : decode m_Mo_strips.2.1 29 = .ok (.istore_n 3, 1) := by decide +kernel
theorem d_Mo_strips_30 : decode m_Mo_strips.2.1 30 = .ok (.iconst 1, 1) := by decide +kernel
theorem d_Mo_strips_31 : decode m_Mo_strips.2.1 31 = .ok (.istore 4, 2) := by decide +kernel
theorem d_Mo_strips_33 : decode m_Mo_strips.2.1 33 = .ok (.iload 4, 2) := by decide +kernel
theorem d_Mo_strips_35 : decode m_Mo_strips.2.1 35 = .ok (.ifCond .eq 156, 3) := by decide +kernel
theorem d_Mo_strips_38 : decode m_Mo_strips.2.1 38 = .ok (.iconst 0, 1) := by decide +kernel
theorem d_Mo_strips_39 : decode m_Mo_strips.2.1 39 = .ok (.istore 5, 2) := by decide +kernel
theorem d_Mo_strips_41 : decode m_Mo_strips.2.1 41 = .ok (.iconst 0, 1) := by decide +kernel
theorem d_Mo_strips_42 : decode m_Mo_strips.2.1 42 = .ok (.istore 6, 2) := by decide +kernel
theorem d_Mo_strips_44 : decode m_Mo_strips.2.1 44 = .ok (.aload_n 0, 1) := by decide +kernel
theorem d_Mo_strips_45 : decode m_Mo_strips.2.1 45 = .ok (.getfield 17, 3) := by decide +kernel
theorem d_Mo_strips_48 : decode m_Mo_strips.2.1 48 = .ok (.iload_n 1, 1) := by decide +kernel
theorem d_Mo_strips_49 : decode m_Mo_strips.2.1 49 = .ok (.iaload, 1) := by decide +kernel
theorem d_Mo_strips_50 : decode m_Mo_strips.2.1 50 = .ok (.iload_n 2, 1) := by decide +kernel
theorem d_Mo_strips_51 : decode m_Mo_strips.2.1 51 = .ok (.isub, 1) := by decide +kernel
theorem d_Mo_strips_52 : decode m_Mo_strips.2.1 52 = .ok (.istore 7, 2) := by decide +kernel
theorem d_Mo_strips_54 : decode m_Mo_strips.2.1 54 = .ok (.aload_n 0, 1) := by decide +kernel
theorem d_Mo_strips_55 : decode m_Mo_strips.2.1 55 = .ok (.iload_n 1, 1) := by decide +kernel
theorem d_Mo_strips_56 : decode m_Mo_strips.2.1 56 = .ok (.iload_n 2, 1) := by decide +kernel
theorem d_Mo_strips_57 : decode m_Mo_strips.2.1 57 = .ok (.iload 7, 2) := by decide +kernel
theorem d_Mo_strips_59 : decode m_Mo_strips.2.1 59 = .ok (.invokevirtual 208, 3) := by decide +kernel
theorem d_Mo_strips_62 : decode m_Mo_strips.2.1 62 = .ok (.istore 8, 2) := by decide +kernel
theorem d_Mo_strips_64 : decode m_Mo_strips.2.1 64 = .ok (.iload 8, 2) := by decide +kernel
theorem d_Mo_strips_66 : decode m_Mo_strips.2.1 66 = .ok (.ifCond .lt 7, 3) := by decide +kernel
theorem d_Mo_strips_69 : decode m_Mo_strips.2.1 69 = .ok (.iconst 1, 1) := by decide +kernel
theorem d_Mo_strips_70 : decode m_Mo_strips.2.1 70 = .ok (.goto 4, 3) := by decide +kernel
theorem d_Mo_strips_73 : decode m_Mo_strips.2.1 73 = .ok (.iconst 0, 1) := by decide +kernel
theorem d_Mo_strips_74 : decode m_Mo_strips.2.1 74 = .ok (.istore 4, 2) := by decide +kernel
theorem d_Mo_strips_76 : decode m_Mo_strips.2.1 76 = .ok (.iload 8, 2) := by decide +kernel
theorem d_Mo_strips_78 : decode m_Mo_strips.2.1 78 = .ok (.ifCond .lt 102, 3) := by decide +kernel
theorem d_Mo_strips_81 : decode m_Mo_strips.2.1 81 = .ok (.aload_n 0, 1) := by decide +kernel
theorem d_Mo_strips_82 : decode m_Mo_strips.2.1 82 = .ok (.iload 8, 2) := by decide +kernel
theorem d_Mo_strips_84 : decode m_Mo_strips.2.1 84 = .ok (.iconst 2, 1) := by decide +kernel
theorem d_Mo_strips_85 : decode m_Mo_strips.2.1 85 = .ok (.idiv, 1) := by decide +kernel
theorem d_Mo_strips_86 : decode m_Mo_strips.2.1 86 = .ok (.iload 8, 2) := by decide +kernel
theorem d_Mo_strips_88 : decode m_Mo_strips.2.1 88 = .ok (.iconst 2, 1) := by decide +kernel
theorem d_Mo_strips_89 : decode m_Mo_strips.2.1 89 = .ok (.irem, 1) := by decide +kernel
theorem d_Mo_strips_90 : decode m_Mo_strips.2.1 90 = .ok (.iconst 1, 1) := by decide +kernel
theorem d_Mo_strips_91 : decode m_Mo_strips.2.1 91 = .ok (.if_icmp .ne 7, 3) := by decide +kernel
theorem d_Mo_strips_94 : decode m_Mo_strips.2.1 94 = .ok (.iconst 1, 1) := by decide +kernel
theorem d_Mo_strips_95 : decode m_Mo_strips.2.1 95 = .ok (.goto 4, 3) := by decide +kernel
theorem d_Mo_strips_98 : decode m_Mo_strips.2.1 98 = .ok (.iconst 0, 1) := by decide +kernel
theorem d_Mo_strips_99 : decode m_Mo_strips.2.1 99 = .ok (.iload_n 3, 1) := by decide +kernel
theorem d_Mo_strips_100 : decode m_Mo_strips.2.1 100 = .ok (.iload 6, 2) := by decide +kernel
theorem d_Mo_strips_102 : decode m_Mo_strips.2.1 102 = .ok (.invokevirtual 212, 3) := by decide +kernel
theorem d_Mo_strips_105 : decode m_Mo_strips.2.1 105 = .ok (.aload_n 0, 1) := by decide +kernel
theorem d_Mo_strips_106 : decode m_Mo_strips.2.1 106 = .ok (.getfield 110, 3) := by decide +kernel
theorem d_Mo_strips_109 : decode m_Mo_strips.2.1 109 = .ok (.iload 8, 2) := by decide +kernel
theorem d_Mo_strips_111 : decode m_Mo_strips.2.1 111 = .ok (.iconst 2, 1) := by decide +kernel
theorem d_Mo_strips_112 : decode m_Mo_strips.2.1 112 = .ok (.idiv, 1) := by decide +kernel
theorem d_Mo_strips_113 : decode m_Mo_strips.2.1 113 = .ok (.dup2, 1) := by decide +kernel
theorem d_Mo_strips_114 : decode m_Mo_strips.2.1 114 = .ok (.iaload, 1) := by decide +kernel
theorem d_Mo_strips_115 : decode m_Mo_strips.2.1 115 = .ok (.iconst 1, 1) := by decide +kernel
theorem d_Mo_strips_116 : decode m_Mo_strips.2.1 116 = .ok (.iadd, 1) := by decide +kernel
theorem d_Mo_strips_117 : decode m_Mo_strips.2.1 117 = .ok (.iastore, 1) := by decide +kernel
theorem d_Mo_strips_118 : decode m_Mo_strips.2.1 118 = .ok (.iload 6, 2) := by decide +kernel
theorem d_Mo_strips_120 : decode m_Mo_strips.2.1 120 = .ok (.ifCond .ne 17, 3) := by decide +kernel
theorem d_Mo_strips_123 : decode m_Mo_strips.2.1 123 = .ok (.aload_n 0, 1) := by decide +kernel
theorem d_Mo_strips_124 : decode m_Mo_strips.2.1 124 = .ok (.getfield 98, 3) := by decide +kernel
theorem d_Mo_strips_127 : decode m_Mo_strips.2.1 127 = .ok (.aload_n 0, 1) := by decide +kernel
theorem d_Mo_strips_128 : decode m_Mo_strips.2.1 128 = .ok (.getfield 174, 3) := by decide +kernel
theorem d_Mo_strips_131 : decode m_Mo_strips.2.1 131 = .ok (.iconst 1, 1) := by decide +kernel
theorem d_Mo_strips_132 : decode m_Mo_strips.2.1 132 = .ok (.isub, 1) := by decide +kernel
theorem d_Mo_strips_133 : decode m_Mo_strips.2.1 133 = .ok (.iaload, 1) := by decide +kernel
theorem d_Mo_strips_134 : decode m_Mo_strips.2.1 134 = .ok (.goto 5, 3) := by decide +kernel
theorem d_Mo_strips_137 : decode m_Mo_strips.2.1 137 = .ok (.iload 7, 2) := by decide +kernel
theorem d_Mo_strips_139 : decode m_Mo_strips.2.1 139 = .ok (.istore 7, 2) := by decide +kernel
theorem d_Mo_strips_141 : decode m_Mo_strips.2.1 141 = .ok (.iload 5, 2) := by decide +kernel
theorem d_Mo_strips_143 : decode m_Mo_strips.2.1 143 = .ok (.aload_n 0, 1) := by decide +kernel
theorem d_Mo_strips_144 : decode m_Mo_strips.2.1 144 = .ok (.getfield 101, 3) := by decide +kernel
theorem d_Mo_strips_147 : decode m_Mo_strips.2.1 147 = .ok (.aload_n 0, 1) := by decide +kernel
theorem d_Mo_strips_148 : decode m_Mo_strips.2.1 148 = .ok (.getfield 174, 3) := by decide +kernel
theorem d_Mo_strips_151 : decode m_Mo_strips.2.1 151 = .ok (.iconst 1, 1) := by decide +kernel
theorem d_Mo_strips_152 : decode m_Mo_strips.2.1 152 = .ok (.isub, 1) := by decide +kernel
theorem d_Mo_strips_153 : decode m_Mo_strips.2.1 153 = .ok (.iaload, 1) := by decide +kernel
theorem d_Mo_strips_154 : decode m_Mo_strips.2.1 154 = .ok (.iadd, 1) := by decide +kernel
theorem d_Mo_strips_155 : decode m_Mo_strips.2.1 155 = .ok (.istore 5, 2) := by decide +kernel
theorem d_Mo_strips_157 : decode m_Mo_strips.2.1 157 = .ok (.iinc 6 1, 3) := by decide +kernel
theorem d_Mo_strips_160 : decode m_Mo_strips.2.1 160 = .ok (.aload_n 0, 1) := by decide +kernel
theorem d_Mo_strips_161 : decode m_Mo_strips.2.1 161 = .ok (.iload_n 1, 1) := by decide +kernel
theorem d_Mo_strips_162 : decode m_Mo_strips.2.1 162 = .ok (.sipush 8192, 3) := by decide +kernel
theorem d_Mo_strips_165 : decode m_Mo_strips.2.1 165 = .ok (.iload 5, 2) := by decide +kernel
theorem d_Mo_strips_167 : decode m_Mo_strips.2.1 167 = .ok (.imul, 1) := by decide +kernel
theorem d_Mo_strips_168 : decode m_Mo_strips.2.1 168 = .ok (.iload_n 2, 1) := by decide +kernel
theorem d_Mo_strips_169 : decode m_Mo_strips.2.1 169 = .ok (.iadd, 1) := by decide +kernel
theorem d_Mo_strips_170 : decode m_Mo_strips.2.1 170 = .ok (.iload 7, 2) := by decide +kernel
theorem d_Mo_strips_172 : decode m_Mo_strips.2.1 172 = .ok (.invokevirtual 208, 3) := by decide +kernel
theorem d_Mo_strips_175 : decode m_Mo_strips.2.1 175 = .ok (.istore 8, 2) := by decide +kernel
theorem d_Mo_strips_177 : decode m_Mo_strips.2.1 177 = .ok (.goto (-101), 3) := by decide +kernel
theorem d_Mo_strips_180 : decode m_Mo_strips.2.1 180 = .ok (.iload_n 2, 1) := by decide +kernel
theorem d_Mo_strips_181 : decode m_Mo_strips.2.1 181 = .ok (.iload 7, 2) := by decide +kernel
theorem d_Mo_strips_183 : decode m_Mo_strips.2.1 183 = .ok (.iadd, 1) := by decide +kernel
theorem d_Mo_strips_184 : decode m_Mo_strips.2.1 184 = .ok (.istore_n 2, 1) := by decide +kernel
theorem d_Mo_strips_185 : decode m_Mo_strips.2.1 185 = .ok (.iinc 3 1, 3) := by decide +kernel
theorem d_Mo_strips_188 : decode m_Mo_strips.2.1 188 = .ok (.goto (-155), 3) := by decide +kernel
theorem d_Mo_strips_191 : decode m_Mo_strips.2.1 191 = .ok (.return_, 1) := by decide +kernel
theorem d_Mo_choose_0 : decode m_Mo_choose.2.1 0 = .ok (.iconst (-1), 1) := by decide +kernel
theorem d_Mo_choose_1 : decode m_Mo_choose.2.1 1 = .ok (.istore 4, 2) := by decide +kernel
theorem d_Mo_choose_3 : decode m_Mo_choose.2.1 3 = .ok (.iconst 0, 1) := by decide +kernel
theorem d_Mo_choose_4 : decode m_Mo_choose.2.1 4 = .ok (.istore 5, 2) := by decide +kernel
theorem d_Mo_choose_6 : decode m_Mo_choose.2.1 6 = .ok (.iload 5, 2) := by decide +kernel
theorem d_Mo_choose_8 : decode m_Mo_choose.2.1 8 = .ok (.aload_n 0, 1) := by decide +kernel
theorem d_Mo_choose_9 : decode m_Mo_choose.2.1 9 = .ok (.getfield 144, 3) := by decide +kernel
theorem d_Mo_choose_12 : decode m_Mo_choose.2.1 12 = .ok (.if_icmp .ge 81, 3) := by decide +kernel
theorem d_Mo_choose_15 : decode m_Mo_choose.2.1 15 = .ok (.aload_n 0, 1) := by decide +kernel
theorem d_Mo_choose_16 : decode m_Mo_choose.2.1 16 = .ok (.iload_n 1, 1) := by decide +kernel
theorem d_Mo_choose_17 : decode m_Mo_choose.2.1 17 = .ok (.iload_n 2, 1) := by decide +kernel
theorem d_Mo_choose_18 : decode m_Mo_choose.2.1 18 = .ok (.iload_n 3, 1) := by decide +kernel
theorem d_Mo_choose_19 : decode m_Mo_choose.2.1 19 = .ok (.iload 5, 2) := by decide +kernel
theorem d_Mo_choose_21 : decode m_Mo_choose.2.1 21 = .ok (.iconst 0, 1) := by decide +kernel
theorem d_Mo_choose_22 : decode m_Mo_choose.2.1 22 = .ok (.invokevirtual 200, 3) := by decide +kernel
theorem d_Mo_choose_25 : decode m_Mo_choose.2.1 25 = .ok (.istore 6, 2) := by decide +kernel
theorem d_Mo_choose_27 : decode m_Mo_choose.2.1 27 = .ok (.aload_n 0, 1) := by decide +kernel
theorem d_Mo_choose_28 : decode m_Mo_choose.2.1 28 = .ok (.iload_n 1, 1) := by decide +kernel
theorem d_Mo_choose_29 : decode m_Mo_choose.2.1 29 = .ok (.iload_n 2, 1) := by decide +kernel
theorem d_Mo_choose_30 : decode m_Mo_choose.2.1 30 = .ok (.iload_n 3, 1) := by decide +kernel
theorem d_Mo_choose_31 : decode m_Mo_choose.2.1 31 = .ok (.iload 5, 2) := by decide +kernel
theorem d_Mo_choose_33 : decode m_Mo_choose.2.1 33 = .ok (.iconst 1, 1) := by decide +kernel
theorem d_Mo_choose_34 : decode m_Mo_choose.2.1 34 = .ok (.invokevirtual 200, 3) := by decide +kernel
theorem d_Mo_choose_37 : decode m_Mo_choose.2.1 37 = .ok (.istore 7, 2) := by decide +kernel
theorem d_Mo_choose_39 : decode m_Mo_choose.2.1 39 = .ok (.iload 6, 2) := by decide +kernel
theorem d_Mo_choose_41 : decode m_Mo_choose.2.1 41 = .ok (.ifCond .ne 8, 3) := by decide +kernel
theorem d_Mo_choose_44 : decode m_Mo_choose.2.1 44 = .ok (.iload 7, 2) := by decide +kernel
theorem d_Mo_choose_46 : decode m_Mo_choose.2.1 46 = .ok (.ifCond .eq 41, 3) := by decide +kernel
theorem d_Mo_choose_49 : decode m_Mo_choose.2.1 49 = .ok (.iload 4, 2) := by decide +kernel
theorem d_Mo_choose_51 : decode m_Mo_choose.2.1 51 = .ok (.ifCond .lt 16, 3) := by decide +kernel
theorem d_Mo_choose_54 : decode m_Mo_choose.2.1 54 = .ok (.aload_n 0, 1) := by decide +kernel
theorem d_Mo_choose_55 : decode m_Mo_choose.2.1 55 = .ok (.iload 5, 2) := by decide +kernel
theorem d_Mo_choose_57 : decode m_Mo_choose.2.1 57 = .ok (.iload 4, 2) := by decide +kernel
theorem d_Mo_choose_59 : decode m_Mo_choose.2.1 59 = .ok (.iconst 2, 1) := by decide +kernel
theorem d_Mo_choose_60 : decode m_Mo_choose.2.1 60 = .ok (.idiv, 1) := by decide +kernel
theorem d_Mo_choose_61 : decode m_Mo_choose.2.1 61 = .ok (.invokevirtual 204, 3) := by decide +kernel
theorem d_Mo_choose_64 : decode m_Mo_choose.2.1 64 = .ok (.ifCond .eq 23, 3) := by decide +kernel
theorem d_Mo_choose_67 : decode m_Mo_choose.2.1 67 = .ok (.iload 6, 2) := by decide +kernel
theorem d_Mo_choose_69 : decode m_Mo_choose.2.1 69 = .ok (.ifCond .eq 10, 3) := by decide +kernel
theorem d_Mo_choose_72 : decode m_Mo_choose.2.1 72 = .ok (.iconst 2, 1) := by decide +kernel
theorem d_Mo_choose_73 : decode m_Mo_choose.2.1 73 = .ok (.iload 5, 2) := by decide +kernel
theorem d_Mo_choose_75 : decode m_Mo_choose.2.1 75 = .ok (.imul, 1) := by decide +kernel
theorem d_Mo_choose_76 : decode m_Mo_choose.2.1 76 = .ok (.goto 9, 3) := by decide +kernel
theorem d_Mo_choose_79 : decode m_Mo_choose.2.1 79 = .ok (.iconst 2, 1) := by decide +kernel
theorem d_Mo_choose_80 : decode m_Mo_choose.2.1 80 = .ok (.iload 5, 2) := by decide +kernel
theorem d_Mo_choose_82 : decode m_Mo_choose.2.1 82 = .ok (.imul, 1) := by decide +kernel
theorem d_Mo_choose_83 : decode m_Mo_choose.2.1 83 = .ok (.iconst 1, 1) := by decide +kernel
theorem d_Mo_choose_84 : decode m_Mo_choose.2.1 84 = .ok (.iadd, 1) := by decide +kernel
theorem d_Mo_choose_85 : decode m_Mo_choose.2.1 85 = .ok (.istore 4, 2) := by decide +kernel
theorem d_Mo_choose_87 : decode m_Mo_choose.2.1 87 = .ok (.iinc 5 1, 3) := by decide +kernel
theorem d_Mo_choose_90 : decode m_Mo_choose.2.1 90 = .ok (.goto (-84), 3) := by decide +kernel
theorem d_Mo_choose_93 : decode m_Mo_choose.2.1 93 = .ok (.iload 4, 2) := by decide +kernel
theorem d_Mo_choose_95 : decode m_Mo_choose.2.1 95 = .ok (.ireturn, 1) := by decide +kernel
theorem d_Mo_isPossible_0 : decode m_Mo_isPossible.2.1 0 = .ok (.iload 5, 2) := by decide +kernel
theorem d_Mo_isPossible_2 : decode m_Mo_isPossible.2.1 2 = .ok (.ifCond .eq 13, 3) := by decide +kernel
theorem d_Mo_isPossible_5 : decode m_Mo_isPossible.2.1 5 = .ok (.aload_n 0, 1) := by decide +kernel
theorem d_Mo_isPossible_6 : decode m_Mo_isPossible.2.1 6 = .ok (.getfield 68, 3) := by decide +kernel
theorem d_Mo_isPossible_9 : decode m_Mo_isPossible.2.1 9 = .ok (.iload 4, 2) := by decide +kernel
theorem d_Mo_isPossible_11 : decode m_Mo_isPossible.2.1 11 = .ok (.iaload, 1) := by decide +kernel
theorem d_Mo_isPossible_12 : decode m_Mo_isPossible.2.1 12 = .ok (.goto 10, 3) := by decide +kernel
theorem d_Mo_isPossible_15 : decode m_Mo_isPossible.2.1 15 = .ok (.aload_n 0, 1) := by decide +kernel
theorem d_Mo_isPossible_16 : decode m_Mo_isPossible.2.1 16 = .ok (.getfield 65, 3) := by decide +kernel
theorem d_Mo_isPossible_19 : decode m_Mo_isPossible.2.1 19 = .ok (.iload 4, 2) := by decide +kernel
theorem d_Mo_isPossible_21 : decode m_Mo_isPossible.2.1 21 = .ok (.iaload, 1) := by decide +kernel
theorem d_Mo_isPossible_22 : decode m_Mo_isPossible.2.1 22 = .ok (.istore 6, 2) := by decide +kernel
theorem d_Mo_isPossible_24 : decode m_Mo_isPossible.2.1 24 = .ok (.iload 5, 2) := by decide +kernel
theorem d_Mo_isPossible_26 : decode m_Mo_isPossible.2.1 26 = .ok (.ifCond .eq 13, 3) := by decide +kernel
theorem d_Mo_isPossible_29 : decode m_Mo_isPossible.2.1 29 = .ok (.aload_n 0, 1) := by decide +kernel
theorem d_Mo_isPossible_30 : decode m_Mo_isPossible.2.1 30 = .ok (.getfield 65, 3) := by decide +kernel
theorem d_Mo_isPossible_33 : decode m_Mo_isPossible.2.1 33 = .ok (.iload 4, 2) := by decide +kernel
theorem d_Mo_isPossible_35 : decode m_Mo_isPossible.2.1 35 = .ok (.iaload, 1) := by decide +kernel
theorem d_Mo_isPossible_36 : decode m_Mo_isPossible.2.1 36 = .ok (.goto 10, 3) := by decide +kernel
theorem d_Mo_isPossible_39 : decode m_Mo_isPossible.2.1 39 = .ok (.aload_n 0, 1) := by decide +kernel
theorem d_Mo_isPossible_40 : decode m_Mo_isPossible.2.1 40 = .ok (.getfield 68, 3) := by decide +kernel
theorem d_Mo_isPossible_43 : decode m_Mo_isPossible.2.1 43 = .ok (.iload 4, 2) := by decide +kernel
theorem d_Mo_isPossible_45 : decode m_Mo_isPossible.2.1 45 = .ok (.iaload, 1) := by decide +kernel
theorem d_Mo_isPossible_46 : decode m_Mo_isPossible.2.1 46 = .ok (.istore 7, 2) := by decide +kernel
theorem d_Mo_isPossible_48 : decode m_Mo_isPossible.2.1 48 = .ok (.iload_n 2, 1) := by decide +kernel
theorem d_Mo_isPossible_49 : decode m_Mo_isPossible.2.1 49 = .ok (.sipush 8192, 3) := by decide +kernel
theorem d_Mo_isPossible_52 : decode m_Mo_isPossible.2.1 52 = .ok (.irem, 1) := by decide +kernel
theorem d_Mo_isPossible_53 : decode m_Mo_isPossible.2.1 53 = .ok (.istore 8, 2) := by decide +kernel
theorem d_Mo_isPossible_55 : decode m_Mo_isPossible.2.1 55 = .ok (.iload_n 2, 1) := by decide +kernel
theorem d_Mo_isPossible_56 : decode m_Mo_isPossible.2.1 56 = .ok (.sipush 8192, 3) := by decide +kernel
theorem d_Mo_isPossible_59 : decode m_Mo_isPossible.2.1 59 = .ok (.idiv, 1) := by decide +kernel
theorem d_Mo_isPossible_60 : decode m_Mo_isPossible.2.1 60 = .ok (.istore 9, 2) := by decide +kernel
theorem d_Mo_isPossible_62 : decode m_Mo_isPossible.2.1 62 = .ok (.aload_n 0, 1) := by decide +kernel
theorem d_Mo_isPossible_63 : decode m_Mo_isPossible.2.1 63 = .ok (.getfield 110, 3) := by decide +kernel
theorem d_Mo_isPossible_66 : decode m_Mo_isPossible.2.1 66 = .ok (.iload 4, 2) := by decide +kernel
theorem d_Mo_isPossible_68 : decode m_Mo_isPossible.2.1 68 = .ok (.iaload, 1) := by decide +kernel
theorem d_Mo_isPossible_69 : decode m_Mo_isPossible.2.1 69 = .ok (.aload_n 0, 1) := by decide +kernel
theorem d_Mo_isPossible_70 : decode m_Mo_isPossible.2.1 70 = .ok (.getfield 74, 3) := by decide +kernel
theorem d_Mo_isPossible_73 : decode m_Mo_isPossible.2.1 73 = .ok (.iload 4, 2) := by decide +kernel
theorem d_Mo_isPossible_75 : decode m_Mo_isPossible.2.1 75 = .ok (.iaload, 1) := by decide +kernel
theorem d_Mo_isPossible_76 : decode m_Mo_isPossible.2.1 76 = .ok (.if_icmp .ge 49, 3) := by decide +kernel
theorem d_Mo_isPossible_79 : decode m_Mo_isPossible.2.1 79 = .ok (.iload 6, 2) := by decide +kernel
theorem d_Mo_isPossible_81 : decode m_Mo_isPossible.2.1 81 = .ok (.iload_n 3, 1) := by decide +kernel
theorem d_Mo_isPossible_82 : decode m_Mo_isPossible.2.1 82 = .ok (.if_icmp .gt 43, 3) := by decide +kernel
theorem d_Mo_isPossible_85 : decode m_Mo_isPossible.2.1 85 = .ok (.iload 7, 2) := by decide +kernel
theorem d_Mo_isPossible_87 : decode m_Mo_isPossible.2.1 87 = .ok (.aload_n 0, 1) := by decide +kernel
theorem d_Mo_isPossible_88 : decode m_Mo_isPossible.2.1 88 = .ok (.getfield 20, 3) := by decide +kernel
theorem d_Mo_isPossible_91 : decode m_Mo_isPossible.2.1 91 = .ok (.iload_n 1, 1) := by decide +kernel
theorem d_Mo_isPossible_92 : decode m_Mo_isPossible.2.1 92 = .ok (.iaload, 1) := by decide +kernel
theorem d_Mo_isPossible_93 : decode m_Mo_isPossible.2.1 93 = .ok (.iload 9, 2) := by decide +kernel
theorem d_Mo_isPossible_95 : decode m_Mo_isPossible.2.1 95 = .ok (.isub, 1) := by decide +kernel
theorem d_Mo_isPossible_96 : decode m_Mo_isPossible.2.1 96 = .ok (.if_icmp .gt 29, 3) := by decide +kernel
theorem d_Mo_isPossible_99 : decode m_Mo_isPossible.2.1 99 = .ok (.iload 5, 2) := by decide +kernel
theorem d_Mo_isPossible_101 : decode m_Mo_isPossible.2.1 101 = .ok (.ifCond .eq 20, 3) := by decide +kernel
theorem d_Mo_isPossible_104 : decode m_Mo_isPossible.2.1 104 = .ok (.aload_n 0, 1) := by decide +kernel
theorem d_Mo_isPossible_105 : decode m_Mo_isPossible.2.1 105 = .ok (.getfield 71, 3) := by decide +kernel
theorem d_Mo_isPossible_108 : decode m_Mo_isPossible.2.1 108 = .ok (.iload 4, 2) := by decide +kernel
theorem d_Mo_isPossible_110 : decode m_Mo_isPossible.2.1 110 = .ok (.baload, 1) := by decide +kernel
theorem d_Mo_isPossible_111 : decode m_Mo_isPossible.2.1 111 = .ok (.ifCond .eq 14, 3) := by decide +kernel
theorem d_Mo_isPossible_114 : decode m_Mo_isPossible.2.1 114 = .ok (.iload 6, 2) := by decide +kernel
theorem d_Mo_isPossible_116 : decode m_Mo_isPossible.2.1 116 = .ok (.iload 7, 2) := by decide +kernel
theorem d_Mo_isPossible_118 : decode m_Mo_isPossible.2.1 118 = .ok (.if_icmp .eq 7, 3) := by decide +kernel
theorem d_Mo_isPossible_121 : decode m_Mo_isPossible.2.1 121 = .ok (.iconst 1, 1) := by decide +kernel
theorem d_Mo_isPossible_122 : decode m_Mo_isPossible.2.1 122 = .ok (.goto 4, 3) := by decide +kernel
theorem d_Mo_isPossible_125 : decode m_Mo_isPossible.2.1 125 = .ok (.iconst 0, 1) := by decide +kernel
theorem d_Mo_isPossible_126 : decode m_Mo_isPossible.2.1 126 = .ok (.istore 10, 2) := by decide +kernel
theorem d_Mo_isPossible_128 : decode m_Mo_isPossible.2.1 128 = .ok (.iconst 0, 1) := by decide +kernel
theorem d_Mo_isPossible_129 : decode m_Mo_isPossible.2.1 129 = .ok (.istore 11, 2) := by decide +kernel
theorem d_Mo_isPossible_131 : decode m_Mo_isPossible.2.1 131 = .ok (.iload 11, 2) := by decide +kernel
theorem d_Mo_isPossible_133 : decode m_Mo_isPossible.2.1 133 = .ok (.aload_n 0, 1) := by decide +kernel
theorem d_Mo_isPossible_134 : decode m_Mo_isPossible.2.1 134 = .ok (.getfield 29, 3) := by decide +kernel
theorem d_Mo_isPossible_137 : decode m_Mo_isPossible.2.1 137 = .ok (.iload_n 1, 1) := by decide +kernel
theorem d_Mo_isPossible_138 : decode m_Mo_isPossible.2.1 138 = .ok (.iaload, 1) := by decide +kernel
theorem d_Mo_isPossible_139 : decode m_Mo_isPossible.2.1 139 = .ok (.if_icmp .ge 39, 3) := by decide +kernel
theorem d_Mo_isPossible_142 : decode m_Mo_isPossible.2.1 142 = .ok (.iload 10, 2) := by decide +kernel
theorem d_Mo_isPossible_144 : decode m_Mo_isPossible.2.1 144 = .ok (.ifCond .eq 34, 3) := by decide +kernel
theorem d_Mo_isPossible_147 : decode m_Mo_isPossible.2.1 147 = .ok (.aload_n 0, 1) := by decide +kernel
theorem d_Mo_isPossible_148 : decode m_Mo_isPossible.2.1 148 = .ok (.iload_n 1, 1) := by decide +kernel
theorem d_Mo_isPossible_149 : decode m_Mo_isPossible.2.1 149 = .ok (.iload 11, 2) := by decide +kernel
theorem d_Mo_isPossible_151 : decode m_Mo_isPossible.2.1 151 = .ok (.iload 8, 2) := by decide +kernel
theorem d_Mo_isPossible_153 : decode m_Mo_isPossible.2.1 153 = .ok (.iload 9, 2) := by decide +kernel
theorem d_Mo_isPossible_155 : decode m_Mo_isPossible.2.1 155 = .ok (.iload 6, 2) := by decide +kernel
theorem d_Mo_isPossible_157 : decode m_Mo_isPossible.2.1 157 = .ok (.iload 7, 2) := by decide +kernel
theorem d_Mo_isPossible_159 : decode m_Mo_isPossible.2.1 159 = .ok (.invokevirtual 196, 3) := by decide +kernel
theorem d_Mo_isPossible_162 : decode m_Mo_isPossible.2.1 162 = .ok (.ifCond .ne 7, 3) := by decide +kernel
theorem d_Mo_isPossible_165 : decode m_Mo_isPossible.2.1 165 = .ok (.iconst 1, 1) := by decide +kernel
theorem d_Mo_isPossible_166 : decode m_Mo_isPossible.2.1 166 = .ok (.goto 4, 3) := by decide +kernel
theorem d_Mo_isPossible_169 : decode m_Mo_isPossible.2.1 169 = .ok (.iconst 0, 1) := by decide +kernel
theorem d_Mo_isPossible_170 : decode m_Mo_isPossible.2.1 170 = .ok (.istore 10, 2) := by decide +kernel
theorem d_Mo_isPossible_172 : decode m_Mo_isPossible.2.1 172 = .ok (.iinc 11 1, 3) := by decide +kernel
theorem d_Mo_isPossible_175 : decode m_Mo_isPossible.2.1 175 = .ok (.goto (-44), 3) := by decide +kernel
theorem d_Mo_isPossible_178 : decode m_Mo_isPossible.2.1 178 = .ok (.iload 10, 2) := by decide +kernel
theorem d_Mo_isPossible_180 : decode m_Mo_isPossible.2.1 180 = .ok (.ireturn, 1) := by decide +kernel
theorem d_Mo_meets_0 : decode m_Mo_meets.2.1 0 = .ok (.bipush 24, 2) := by decide +kernel
theorem d_Mo_meets_2 : decode m_Mo_meets.2.1 2 = .ok (.iload_n 1, 1) := by decide +kernel
theorem d_Mo_meets_3 : decode m_Mo_meets.2.1 3 = .ok (.imul, 1) := by decide +kernel
theorem d_Mo_meets_4 : decode m_Mo_meets.2.1 4 = .ok (.iconst 4, 1) := by decide +kernel
theorem d_Mo_meets_5 : decode m_Mo_meets.2.1 5 = .ok (.iload_n 2, 1) := by decide +kernel
theorem d_Mo_meets_6 : decode m_Mo_meets.2.1 6 = .ok (.imul, 1) := by decide +kernel
theorem d_Mo_meets_7 : decode m_Mo_meets.2.1 7 = .ok (.iadd, 1) := by decide +kernel
theorem d_Mo_meets_8 : decode m_Mo_meets.2.1 8 = .ok (.istore 7, 2) := by decide +kernel
theorem d_Mo_meets_10 : decode m_Mo_meets.2.1 10 = .ok (.aload_n 0, 1) := by decide +kernel
theorem d_Mo_meets_11 : decode m_Mo_meets.2.1 11 = .ok (.getfield 32, 3) := by decide +kernel
theorem d_Mo_meets_14 : decode m_Mo_meets.2.1 14 = .ok (.iload 7, 2) := by decide +kernel
theorem d_Mo_meets_16 : decode m_Mo_meets.2.1 16 = .ok (.iaload, 1) := by decide +kernel
theorem d_Mo_meets_17 : decode m_Mo_meets.2.1 17 = .ok (.aload_n 0, 1) := by decide +kernel
theorem d_Mo_meets_18 : decode m_Mo_meets.2.1 18 = .ok (.getfield 32, 3) := by decide +kernel
theorem d_Mo_meets_21 : decode m_Mo_meets.2.1 21 = .ok (.iload 7, 2) := by decide +kernel
theorem d_Mo_meets_23 : decode m_Mo_meets.2.1 23 = .ok (.iconst 2, 1) := by decide +kernel
theorem d_Mo_meets_24 : decode m_Mo_meets.2.1 24 = .ok (.iadd, 1) := by decide +kernel
theorem d_Mo_meets_25 : decode m_Mo_meets.2.1 25 = .ok (.iaload, 1) := by decide +kernel
theorem d_Mo_meets_26 : decode m_Mo_meets.2.1 26 = .ok (.iload_n 3, 1) := by decide +kernel
theorem d_Mo_meets_27 : decode m_Mo_meets.2.1 27 = .ok (.iload 5, 2) := by decide +kernel
theorem d_Mo_meets_29 : decode m_Mo_meets.2.1 29 = .ok (.invokestatic 192, 3) := by decide +kernel
theorem d_Mo_meets_32 : decode m_Mo_meets.2.1 32 = .ok (.ifCond .eq 35, 3) := by decide +kernel
theorem d_Mo_meets_35 : decode m_Mo_meets.2.1 35 = .ok (.aload_n 0, 1) := by decide +kernel
theorem d_Mo_meets_36 : decode m_Mo_meets.2.1 36 = .ok (.getfield 32, 3) := by decide +kernel
theorem d_Mo_meets_39 : decode m_Mo_meets.2.1 39 = .ok (.iload 7, 2) := by decide +kernel
theorem d_Mo_meets_41 : decode m_Mo_meets.2.1 41 = .ok (.iconst 1, 1) := by decide +kernel
theorem d_Mo_meets_42 : decode m_Mo_meets.2.1 42 = .ok (.iadd, 1) := by decide +kernel
theorem d_Mo_meets_43 : decode m_Mo_meets.2.1 43 = .ok (.iaload, 1) := by decide +kernel
theorem d_Mo_meets_44 : decode m_Mo_meets.2.1 44 = .ok (.aload_n 0, 1) := by decide +kernel
theorem d_Mo_meets_45 : decode m_Mo_meets.2.1 45 = .ok (.getfield 32, 3) := by decide +kernel
theorem d_Mo_meets_48 : decode m_Mo_meets.2.1 48 = .ok (.iload 7, 2) := by decide +kernel
theorem d_Mo_meets_50 : decode m_Mo_meets.2.1 50 = .ok (.iconst 3, 1) := by decide +kernel
theorem d_Mo_meets_51 : decode m_Mo_meets.2.1 51 = .ok (.iadd, 1) := by decide +kernel
theorem d_Mo_meets_52 : decode m_Mo_meets.2.1 52 = .ok (.iaload, 1) := by decide +kernel
theorem d_Mo_meets_53 : decode m_Mo_meets.2.1 53 = .ok (.iload 4, 2) := by decide +kernel
theorem d_Mo_meets_55 : decode m_Mo_meets.2.1 55 = .ok (.iload 6, 2) := by decide +kernel
theorem d_Mo_meets_57 : decode m_Mo_meets.2.1 57 = .ok (.invokestatic 192, 3) := by decide +kernel
theorem d_Mo_meets_60 : decode m_Mo_meets.2.1 60 = .ok (.ifCond .eq 7, 3) := by decide +kernel
theorem d_Mo_meets_63 : decode m_Mo_meets.2.1 63 = .ok (.iconst 1, 1) := by decide +kernel
theorem d_Mo_meets_64 : decode m_Mo_meets.2.1 64 = .ok (.goto 4, 3) := by decide +kernel
theorem d_Mo_meets_67 : decode m_Mo_meets.2.1 67 = .ok (.iconst 0, 1) := by decide +kernel
theorem d_Mo_meets_68 : decode m_Mo_meets.2.1 68 = .ok (.ireturn, 1) := by decide +kernel
theorem d_Mo_overlap_0 : decode m_Mo_overlap.2.1 0 = .ok (.iload_n 0, 1) := by decide +kernel
theorem d_Mo_overlap_1 : decode m_Mo_overlap.2.1 1 = .ok (.iload_n 2, 1) := by decide +kernel
theorem d_Mo_overlap_2 : decode m_Mo_overlap.2.1 2 = .ok (.iload_n 3, 1) := by decide +kernel
theorem d_Mo_overlap_3 : decode m_Mo_overlap.2.1 3 = .ok (.iadd, 1) := by decide +kernel
theorem d_Mo_overlap_4 : decode m_Mo_overlap.2.1 4 = .ok (.if_icmp .ge 14, 3) := by decide +kernel
theorem d_Mo_overlap_7 : decode m_Mo_overlap.2.1 7 = .ok (.iload_n 2, 1) := by decide +kernel
theorem d_Mo_overlap_8 : decode m_Mo_overlap.2.1 8 = .ok (.iload_n 0, 1) := by decide +kernel
theorem d_Mo_overlap_9 : decode m_Mo_overlap.2.1 9 = .ok (.iload_n 1, 1) := by decide +kernel
theorem d_Mo_overlap_10 : decode m_Mo_overlap.2.1 10 = .ok (.iadd, 1) := by decide +kernel
theorem d_Mo_overlap_11 : decode m_Mo_overlap.2.1 11 = .ok (.if_icmp .ge 7, 3) := by decide +kernel
theorem d_Mo_overlap_14 : decode m_Mo_overlap.2.1 14 = .ok (.iconst 1, 1) := by decide +kernel
theorem d_Mo_overlap_15 : decode m_Mo_overlap.2.1 15 = .ok (.goto 4, 3) := by decide +kernel
theorem d_Mo_overlap_18 : decode m_Mo_overlap.2.1 18 = .ok (.iconst 0, 1) := by decide +kernel
theorem d_Mo_overlap_19 : decode m_Mo_overlap.2.1 19 = .ok (.ireturn, 1) := by decide +kernel
theorem d_Mo_isBefore_0 : decode m_Mo_isBefore.2.1 0 = .ok (.aload_n 0, 1) := by decide +kernel
theorem d_Mo_isBefore_1 : decode m_Mo_isBefore.2.1 1 = .ok (.getfield 68, 3) := by decide +kernel
theorem d_Mo_isBefore_4 : decode m_Mo_isBefore.2.1 4 = .ok (.iload_n 1, 1) := by decide +kernel
theorem d_Mo_isBefore_5 : decode m_Mo_isBefore.2.1 5 = .ok (.iaload, 1) := by decide +kernel
theorem d_Mo_isBefore_6 : decode m_Mo_isBefore.2.1 6 = .ok (.aload_n 0, 1) := by decide +kernel
theorem d_Mo_isBefore_7 : decode m_Mo_isBefore.2.1 7 = .ok (.getfield 68, 3) := by decide +kernel
theorem d_Mo_isBefore_10 : decode m_Mo_isBefore.2.1 10 = .ok (.iload_n 2, 1) := by decide +kernel
theorem d_Mo_isBefore_11 : decode m_Mo_isBefore.2.1 11 = .ok (.iaload, 1) := by decide +kernel
theorem d_Mo_isBefore_12 : decode m_Mo_isBefore.2.1 12 = .ok (.if_icmp .gt 53, 3) := by decide +kernel
theorem d_Mo_isBefore_15 : decode m_Mo_isBefore.2.1 15 = .ok (.aload_n 0, 1) := by decide +kernel
theorem d_Mo_isBefore_16 : decode m_Mo_isBefore.2.1 16 = .ok (.getfield 68, 3) := by decide +kernel
theorem d_Mo_isBefore_19 : decode m_Mo_isBefore.2.1 19 = .ok (.iload_n 1, 1) := by decide +kernel
theorem d_Mo_isBefore_20 : decode m_Mo_isBefore.2.1 20 = .ok (.iaload, 1) := by decide +kernel
theorem d_Mo_isBefore_21 : decode m_Mo_isBefore.2.1 21 = .ok (.aload_n 0, 1) := by decide +kernel
theorem d_Mo_isBefore_22 : decode m_Mo_isBefore.2.1 22 = .ok (.getfield 68, 3) := by decide +kernel
theorem d_Mo_isBefore_25 : decode m_Mo_isBefore.2.1 25 = .ok (.iload_n 2, 1) := by decide +kernel
theorem d_Mo_isBefore_26 : decode m_Mo_isBefore.2.1 26 = .ok (.iaload, 1) := by decide +kernel
theorem d_Mo_isBefore_27 : decode m_Mo_isBefore.2.1 27 = .ok (.if_icmp .ne 42, 3) := by decide +kernel
theorem d_Mo_isBefore_30 : decode m_Mo_isBefore.2.1 30 = .ok (.aload_n 0, 1) := by decide +kernel
theorem d_Mo_isBefore_31 : decode m_Mo_isBefore.2.1 31 = .ok (.getfield 65, 3) := by decide +kernel
theorem d_Mo_isBefore_34 : decode m_Mo_isBefore.2.1 34 = .ok (.iload_n 1, 1) := by decide +kernel
theorem d_Mo_isBefore_35 : decode m_Mo_isBefore.2.1 35 = .ok (.iaload, 1) := by decide +kernel
theorem d_Mo_isBefore_36 : decode m_Mo_isBefore.2.1 36 = .ok (.aload_n 0, 1) := by decide +kernel
theorem d_Mo_isBefore_37 : decode m_Mo_isBefore.2.1 37 = .ok (.getfield 65, 3) := by decide +kernel
theorem d_Mo_isBefore_40 : decode m_Mo_isBefore.2.1 40 = .ok (.iload_n 2, 1) := by decide +kernel
theorem d_Mo_isBefore_41 : decode m_Mo_isBefore.2.1 41 = .ok (.iaload, 1) := by decide +kernel
theorem d_Mo_isBefore_42 : decode m_Mo_isBefore.2.1 42 = .ok (.if_icmp .gt 23, 3) := by decide +kernel
theorem d_Mo_isBefore_45 : decode m_Mo_isBefore.2.1 45 = .ok (.aload_n 0, 1) := by decide +kernel
theorem d_Mo_isBefore_46 : decode m_Mo_isBefore.2.1 46 = .ok (.getfield 65, 3) := by decide +kernel
theorem d_Mo_isBefore_49 : decode m_Mo_isBefore.2.1 49 = .ok (.iload_n 1, 1) := by decide +kernel
theorem d_Mo_isBefore_50 : decode m_Mo_isBefore.2.1 50 = .ok (.iaload, 1) := by decide +kernel
theorem d_Mo_isBefore_51 : decode m_Mo_isBefore.2.1 51 = .ok (.aload_n 0, 1) := by decide +kernel
theorem d_Mo_isBefore_52 : decode m_Mo_isBefore.2.1 52 = .ok (.getfield 65, 3) := by decide +kernel
theorem d_Mo_isBefore_55 : decode m_Mo_isBefore.2.1 55 = .ok (.iload_n 2, 1) := by decide +kernel
theorem d_Mo_isBefore_56 : decode m_Mo_isBefore.2.1 56 = .ok (.iaload, 1) := by decide +kernel
theorem d_Mo_isBefore_57 : decode m_Mo_isBefore.2.1 57 = .ok (.if_icmp .ne 12, 3) := by decide +kernel
theorem d_Mo_isBefore_60 : decode m_Mo_isBefore.2.1 60 = .ok (.iload_n 1, 1) := by decide +kernel
theorem d_Mo_isBefore_61 : decode m_Mo_isBefore.2.1 61 = .ok (.iload_n 2, 1) := by decide +kernel
theorem d_Mo_isBefore_62 : decode m_Mo_isBefore.2.1 62 = .ok (.if_icmp .ge 7, 3) := by decide +kernel
theorem d_Mo_isBefore_65 : decode m_Mo_isBefore.2.1 65 = .ok (.iconst 1, 1) := by decide +kernel
theorem d_Mo_isBefore_66 : decode m_Mo_isBefore.2.1 66 = .ok (.goto 4, 3) := by decide +kernel
theorem d_Mo_isBefore_69 : decode m_Mo_isBefore.2.1 69 = .ok (.iconst 0, 1) := by decide +kernel
theorem d_Mo_isBefore_70 : decode m_Mo_isBefore.2.1 70 = .ok (.ireturn, 1) := by decide +kernel
theorem d_Mo_lay_0 : decode m_Mo_lay.2.1 0 = .ok (.aload_n 0, 1) := by decide +kernel
theorem d_Mo_lay_1 : decode m_Mo_lay.2.1 1 = .ok (.getfield 95, 3) := by decide +kernel
theorem d_Mo_lay_4 : decode m_Mo_lay.2.1 4 = .ok (.aload_n 0, 1) := by decide +kernel
theorem d_Mo_lay_5 : decode m_Mo_lay.2.1 5 = .ok (.getfield 174, 3) := by decide +kernel
theorem d_Mo_lay_8 : decode m_Mo_lay.2.1 8 = .ok (.iload_n 1, 1) := by decide +kernel
theorem d_Mo_lay_9 : decode m_Mo_lay.2.1 9 = .ok (.iastore, 1) := by decide +kernel
theorem d_Mo_lay_10 : decode m_Mo_lay.2.1 10 = .ok (.aload_n 0, 1) := by decide +kernel
theorem d_Mo_lay_11 : decode m_Mo_lay.2.1 11 = .ok (.getfield 98, 3) := by decide +kernel
theorem d_Mo_lay_14 : decode m_Mo_lay.2.1 14 = .ok (.aload_n 0, 1) := by decide +kernel
theorem d_Mo_lay_15 : decode m_Mo_lay.2.1 15 = .ok (.getfield 174, 3) := by decide +kernel
theorem d_Mo_lay_18 : decode m_Mo_lay.2.1 18 = .ok (.iload_n 2, 1) := by decide +kernel
theorem d_Mo_lay_19 : decode m_Mo_lay.2.1 19 = .ok (.ifCond .eq 12, 3) := by decide +kernel
theorem d_Mo_lay_22 : decode m_Mo_lay.2.1 22 = .ok (.aload_n 0, 1) := by decide +kernel
theorem d_Mo_lay_23 : decode m_Mo_lay.2.1 23 = .ok (.getfield 68, 3) := by decide +kernel
theorem d_Mo_lay_26 : decode m_Mo_lay.2.1 26 = .ok (.iload_n 1, 1) := by decide +kernel
theorem d_Mo_lay_27 : decode m_Mo_lay.2.1 27 = .ok (.iaload, 1) := by decide +kernel
theorem d_Mo_lay_28 : decode m_Mo_lay.2.1 28 = .ok (.goto 9, 3) := by decide +kernel
theorem d_Mo_lay_31 : decode m_Mo_lay.2.1 31 = .ok (.aload_n 0, 1) := by decide +kernel
theorem d_Mo_lay_32 : decode m_Mo_lay.2.1 32 = .ok (.getfield 65, 3) := by decide +kernel
theorem d_Mo_lay_35 : decode m_Mo_lay.2.1 35 = .ok (.iload_n 1, 1) := by decide +kernel
theorem d_Mo_lay_36 : decode m_Mo_lay.2.1 36 = .ok (.iaload, 1) := by decide +kernel
theorem d_Mo_lay_37 : decode m_Mo_lay.2.1 37 = .ok (.iastore, 1) := by decide +kernel
theorem d_Mo_lay_38 : decode m_Mo_lay.2.1 38 = .ok (.aload_n 0, 1) := by decide +kernel
theorem d_Mo_lay_39 : decode m_Mo_lay.2.1 39 = .ok (.getfield 101, 3) := by decide +kernel
theorem d_Mo_lay_42 : decode m_Mo_lay.2.1 42 = .ok (.aload_n 0, 1) := by decide +kernel
theorem d_Mo_lay_43 : decode m_Mo_lay.2.1 43 = .ok (.getfield 174, 3) := by decide +kernel
theorem d_Mo_lay_46 : decode m_Mo_lay.2.1 46 = .ok (.iload_n 2, 1) := by decide +kernel
theorem d_Mo_lay_47 : decode m_Mo_lay.2.1 47 = .ok (.ifCond .eq 12, 3) := by decide +kernel
theorem d_Mo_lay_50 : decode m_Mo_lay.2.1 50 = .ok (.aload_n 0, 1) := by decide +kernel
theorem d_Mo_lay_51 : decode m_Mo_lay.2.1 51 = .ok (.getfield 65, 3) := by decide +kernel
theorem d_Mo_lay_54 : decode m_Mo_lay.2.1 54 = .ok (.iload_n 1, 1) := by decide +kernel
theorem d_Mo_lay_55 : decode m_Mo_lay.2.1 55 = .ok (.iaload, 1) := by decide +kernel
theorem d_Mo_lay_56 : decode m_Mo_lay.2.1 56 = .ok (.goto 9, 3) := by decide +kernel
theorem d_Mo_lay_59 : decode m_Mo_lay.2.1 59 = .ok (.aload_n 0, 1) := by decide +kernel
theorem d_Mo_lay_60 : decode m_Mo_lay.2.1 60 = .ok (.getfield 68, 3) := by decide +kernel
theorem d_Mo_lay_63 : decode m_Mo_lay.2.1 63 = .ok (.iload_n 1, 1) := by decide +kernel
theorem d_Mo_lay_64 : decode m_Mo_lay.2.1 64 = .ok (.iaload, 1) := by decide +kernel
theorem d_Mo_lay_65 : decode m_Mo_lay.2.1 65 = .ok (.iastore, 1) := by decide +kernel
theorem d_Mo_lay_66 : decode m_Mo_lay.2.1 66 = .ok (.aload_n 0, 1) := by decide +kernel
theorem d_Mo_lay_67 : decode m_Mo_lay.2.1 67 = .ok (.getfield 104, 3) := by decide +kernel
theorem d_Mo_lay_70 : decode m_Mo_lay.2.1 70 = .ok (.aload_n 0, 1) := by decide +kernel
theorem d_Mo_lay_71 : decode m_Mo_lay.2.1 71 = .ok (.getfield 174, 3) := by decide +kernel
theorem d_Mo_lay_74 : decode m_Mo_lay.2.1 74 = .ok (.iload_n 3, 1) := by decide +kernel
theorem d_Mo_lay_75 : decode m_Mo_lay.2.1 75 = .ok (.iastore, 1) := by decide +kernel
theorem d_Mo_lay_76 : decode m_Mo_lay.2.1 76 = .ok (.aload_n 0, 1) := by decide +kernel
theorem d_Mo_lay_77 : decode m_Mo_lay.2.1 77 = .ok (.getfield 107, 3) := by decide +kernel
theorem d_Mo_lay_80 : decode m_Mo_lay.2.1 80 = .ok (.aload_n 0, 1) := by decide +kernel
theorem d_Mo_lay_81 : decode m_Mo_lay.2.1 81 = .ok (.getfield 174, 3) := by decide +kernel
theorem d_Mo_lay_84 : decode m_Mo_lay.2.1 84 = .ok (.iload 4, 2) := by decide +kernel
theorem d_Mo_lay_86 : decode m_Mo_lay.2.1 86 = .ok (.iastore, 1) := by decide +kernel
theorem d_Mo_lay_87 : decode m_Mo_lay.2.1 87 = .ok (.aload_n 0, 1) := by decide +kernel
theorem d_Mo_lay_88 : decode m_Mo_lay.2.1 88 = .ok (.dup, 1) := by decide +kernel
theorem d_Mo_lay_89 : decode m_Mo_lay.2.1 89 = .ok (.getfield 174, 3) := by decide +kernel
theorem d_Mo_lay_92 : decode m_Mo_lay.2.1 92 = .ok (.iconst 1, 1) := by decide +kernel
theorem d_Mo_lay_93 : decode m_Mo_lay.2.1 93 = .ok (.iadd, 1) := by decide +kernel
theorem d_Mo_lay_94 : decode m_Mo_lay.2.1 94 = .ok (.putfield 174, 3) := by decide +kernel
theorem d_Mo_lay_97 : decode m_Mo_lay.2.1 97 = .ok (.return_, 1) := by decide +kernel
theorem d_Mo_adopt_0 : decode m_Mo_adopt.2.1 0 = .ok (.aload_n 0, 1) := by decide +kernel
theorem d_Mo_adopt_1 : decode m_Mo_adopt.2.1 1 = .ok (.getfield 35, 3) := by decide +kernel
theorem d_Mo_adopt_4 : decode m_Mo_adopt.2.1 4 = .ok (.iload_n 1, 1) := by decide +kernel
theorem d_Mo_adopt_5 : decode m_Mo_adopt.2.1 5 = .ok (.iconst 0, 1) := by decide +kernel
theorem d_Mo_adopt_6 : decode m_Mo_adopt.2.1 6 = .ok (.iastore, 1) := by decide +kernel
theorem d_Mo_adopt_7 : decode m_Mo_adopt.2.1 7 = .ok (.aload_n 0, 1) := by decide +kernel
theorem d_Mo_adopt_8 : decode m_Mo_adopt.2.1 8 = .ok (.iconst 0, 1) := by decide +kernel
theorem d_Mo_adopt_9 : decode m_Mo_adopt.2.1 9 = .ok (.putfield 216, 3) := by decide +kernel
theorem d_Mo_adopt_12 : decode m_Mo_adopt.2.1 12 = .ok (.aload_n 0, 1) := by decide +kernel
theorem d_Mo_adopt_13 : decode m_Mo_adopt.2.1 13 = .ok (.iconst 0, 1) := by decide +kernel
theorem d_Mo_adopt_14 : decode m_Mo_adopt.2.1 14 = .ok (.iconst 0, 1) := by decide +kernel
theorem d_Mo_adopt_15 : decode m_Mo_adopt.2.1 15 = .ok (.iconst 0, 1) := by decide +kernel
theorem d_Mo_adopt_16 : decode m_Mo_adopt.2.1 16 = .ok (.iconst 0, 1) := by decide +kernel
theorem d_Mo_adopt_17 : decode m_Mo_adopt.2.1 17 = .ok (.iconst (-1), 1) := by decide +kernel
theorem d_Mo_adopt_18 : decode m_Mo_adopt.2.1 18 = .ok (.invokevirtual 230, 3) := by decide +kernel
theorem d_Mo_adopt_21 : decode m_Mo_adopt.2.1 21 = .ok (.aload_n 0, 1) := by decide +kernel
theorem d_Mo_adopt_22 : decode m_Mo_adopt.2.1 22 = .ok (.iconst 0, 1) := by decide +kernel
theorem d_Mo_adopt_23 : decode m_Mo_adopt.2.1 23 = .ok (.iconst 0, 1) := by decide +kernel
theorem d_Mo_adopt_24 : decode m_Mo_adopt.2.1 24 = .ok (.aload_n 0, 1) := by decide +kernel
theorem d_Mo_adopt_25 : decode m_Mo_adopt.2.1 25 = .ok (.getfield 17, 3) := by decide +kernel
theorem d_Mo_adopt_28 : decode m_Mo_adopt.2.1 28 = .ok (.iload_n 1, 1) := by decide +kernel
theorem d_Mo_adopt_29 : decode m_Mo_adopt.2.1 29 = .ok (.iaload, 1) := by decide +kernel
theorem d_Mo_adopt_30 : decode m_Mo_adopt.2.1 30 = .ok (.aload_n 0, 1) := by decide +kernel
theorem d_Mo_adopt_31 : decode m_Mo_adopt.2.1 31 = .ok (.getfield 20, 3) := by decide +kernel
theorem d_Mo_adopt_34 : decode m_Mo_adopt.2.1 34 = .ok (.iload_n 1, 1) := by decide +kernel
theorem d_Mo_adopt_35 : decode m_Mo_adopt.2.1 35 = .ok (.iaload, 1) := by decide +kernel
theorem d_Mo_adopt_36 : decode m_Mo_adopt.2.1 36 = .ok (.invokevirtual 233, 3) := by decide +kernel
theorem d_Mo_adopt_39 : decode m_Mo_adopt.2.1 39 = .ok (.aload_n 0, 1) := by decide +kernel
theorem d_Mo_adopt_40 : decode m_Mo_adopt.2.1 40 = .ok (.getfield 216, 3) := by decide +kernel
theorem d_Mo_adopt_43 : decode m_Mo_adopt.2.1 43 = .ok (.ifCond .le 11, 3) := by decide +kernel
theorem d_Mo_adopt_46 : decode m_Mo_adopt.2.1 46 = .ok (.aload_n 0, 1) := by decide +kernel
theorem d_Mo_adopt_47 : decode m_Mo_adopt.2.1 47 = .ok (.iload_n 1, 1) := by decide +kernel
theorem d_Mo_adopt_48 : decode m_Mo_adopt.2.1 48 = .ok (.invokevirtual 237, 3) := by decide +kernel
theorem d_Mo_adopt_51 : decode m_Mo_adopt.2.1 51 = .ok (.goto (-12), 3) := by decide +kernel
theorem d_Mo_adopt_54 : decode m_Mo_adopt.2.1 54 = .ok (.aload_n 0, 1) := by decide +kernel
theorem d_Mo_adopt_55 : decode m_Mo_adopt.2.1 55 = .ok (.getfield 62, 3) := by decide +kernel
theorem d_Mo_adopt_58 : decode m_Mo_adopt.2.1 58 = .ok (.sipush 160, 3) := by decide +kernel
theorem d_Mo_adopt_61 : decode m_Mo_adopt.2.1 61 = .ok (.iload_n 1, 1) := by decide +kernel
theorem d_Mo_adopt_62 : decode m_Mo_adopt.2.1 62 = .ok (.imul, 1) := by decide +kernel
theorem d_Mo_adopt_63 : decode m_Mo_adopt.2.1 63 = .ok (.iconst 1, 1) := by decide +kernel
theorem d_Mo_adopt_64 : decode m_Mo_adopt.2.1 64 = .ok (.iastore, 1) := by decide +kernel
theorem d_Mo_adopt_65 : decode m_Mo_adopt.2.1 65 = .ok (.aload_n 0, 1) := by decide +kernel
theorem d_Mo_adopt_66 : decode m_Mo_adopt.2.1 66 = .ok (.getfield 23, 3) := by decide +kernel
theorem d_Mo_adopt_69 : decode m_Mo_adopt.2.1 69 = .ok (.iload_n 1, 1) := by decide +kernel
theorem d_Mo_adopt_70 : decode m_Mo_adopt.2.1 70 = .ok (.iconst 1, 1) := by decide +kernel
theorem d_Mo_adopt_71 : decode m_Mo_adopt.2.1 71 = .ok (.bastore, 1) := by decide +kernel
theorem d_Mo_adopt_72 : decode m_Mo_adopt.2.1 72 = .ok (.aload_n 0, 1) := by decide +kernel
theorem d_Mo_adopt_73 : decode m_Mo_adopt.2.1 73 = .ok (.getfield 26, 3) := by decide +kernel
theorem d_Mo_adopt_76 : decode m_Mo_adopt.2.1 76 = .ok (.iload_n 1, 1) := by decide +kernel
theorem d_Mo_adopt_77 : decode m_Mo_adopt.2.1 77 = .ok (.iconst 0, 1) := by decide +kernel
theorem d_Mo_adopt_78 : decode m_Mo_adopt.2.1 78 = .ok (.bastore, 1) := by decide +kernel
theorem d_Mo_adopt_79 : decode m_Mo_adopt.2.1 79 = .ok (.iconst 0, 1) := by decide +kernel
theorem d_Mo_adopt_80 : decode m_Mo_adopt.2.1 80 = .ok (.istore_n 2, 1) := by decide +kernel
theorem d_Mo_adopt_81 : decode m_Mo_adopt.2.1 81 = .ok (.iload_n 2, 1) := by decide +kernel
theorem d_Mo_adopt_82 : decode m_Mo_adopt.2.1 82 = .ok (.aload_n 0, 1) := by decide +kernel
theorem d_Mo_adopt_83 : decode m_Mo_adopt.2.1 83 = .ok (.getfield 174, 3) := by decide +kernel
theorem d_Mo_adopt_86 : decode m_Mo_adopt.2.1 86 = .ok (.if_icmp .ge 39, 3) := by decide +kernel
theorem d_Mo_adopt_89 : decode m_Mo_adopt.2.1 89 = .ok (.aload_n 0, 1) := by decide +kernel
theorem d_Mo_adopt_90 : decode m_Mo_adopt.2.1 90 = .ok (.getfield 74, 3) := by decide +kernel
theorem d_Mo_adopt_93 : decode m_Mo_adopt.2.1 93 = .ok (.aload_n 0, 1) := by decide +kernel
theorem d_Mo_adopt_94 : decode m_Mo_adopt.2.1 94 = .ok (.getfield 95, 3) := by decide +kernel
theorem d_Mo_adopt_97 : decode m_Mo_adopt.2.1 97 = .ok (.iload_n 2, 1) := by decide +kernel
theorem d_Mo_adopt_98 : decode m_Mo_adopt.2.1 98 = .ok (.iaload, 1) := by decide +kernel
theorem d_Mo_adopt_99 : decode m_Mo_adopt.2.1 99 = .ok (.dup2, 1) := by decide +kernel
theorem d_Mo_adopt_100 : decode m_Mo_adopt.2.1 100 = .ok (.iaload, 1) := by decide +kernel
theorem d_Mo_adopt_101 : decode m_Mo_adopt.2.1 101 = .ok (.iconst 1, 1) := by decide +kernel
theorem d_Mo_adopt_102 : decode m_Mo_adopt.2.1 102 = .ok (.isub, 1) := by decide +kernel
theorem d_Mo_adopt_103 : decode m_Mo_adopt.2.1 103 = .ok (.iastore, 1) := by decide +kernel
theorem d_Mo_adopt_104 : decode m_Mo_adopt.2.1 104 = .ok (.aload_n 0, 1) := by decide +kernel
theorem d_Mo_adopt_105 : decode m_Mo_adopt.2.1 105 = .ok (.getfield 77, 3) := by decide +kernel
theorem d_Mo_adopt_108 : decode m_Mo_adopt.2.1 108 = .ok (.aload_n 0, 1) := by decide +kernel
theorem d_Mo_adopt_109 : decode m_Mo_adopt.2.1 109 = .ok (.getfield 95, 3) := by decide +kernel
theorem d_Mo_adopt_112 : decode m_Mo_adopt.2.1 112 = .ok (.iload_n 2, 1) := by decide +kernel
theorem d_Mo_adopt_113 : decode m_Mo_adopt.2.1 113 = .ok (.iaload, 1) := by decide +kernel
theorem d_Mo_adopt_114 : decode m_Mo_adopt.2.1 114 = .ok (.dup2, 1) := by decide +kernel
theorem d_Mo_adopt_115 : decode m_Mo_adopt.2.1 115 = .ok (.iaload, 1) := by decide +kernel
theorem d_Mo_adopt_116 : decode m_Mo_adopt.2.1 116 = .ok (.iconst 1, 1) := by decide +kernel
theorem d_Mo_adopt_117 : decode m_Mo_adopt.2.1 117 = .ok (.iadd, 1) := by decide +kernel
theorem d_Mo_adopt_118 : decode m_Mo_adopt.2.1 118 = .ok (.iastore, 1) := by decide +kernel
theorem d_Mo_adopt_119 : decode m_Mo_adopt.2.1 119 = .ok (.iinc 2 1, 3) := by decide +kernel
theorem d_Mo_adopt_122 : decode m_Mo_adopt.2.1 122 = .ok (.goto (-41), 3) := by decide +kernel
theorem d_Mo_adopt_125 : decode m_Mo_adopt.2.1 125 = .ok (.aload_n 0, 1) := by decide +kernel
theorem d_Mo_adopt_126 : decode m_Mo_adopt.2.1 126 = .ok (.getfield 174, 3) := by decide +kernel
theorem d_Mo_adopt_129 : decode m_Mo_adopt.2.1 129 = .ok (.ireturn, 1) := by decide +kernel
theorem d_Mo_push_0 : decode m_Mo_push.2.1 0 = .ok (.aload_n 0, 1) := by decide +kernel
theorem d_Mo_push_1 : decode m_Mo_push.2.1 1 = .ok (.getfield 113, 3) := by decide +kernel
theorem d_Mo_push_4 : decode m_Mo_push.2.1 4 = .ok (.aload_n 0, 1) := by decide +kernel
theorem d_Mo_push_5 : decode m_Mo_push.2.1 5 = .ok (.getfield 216, 3) := by decide +kernel
theorem d_Mo_push_8 : decode m_Mo_push.2.1 8 = .ok (.iload_n 1, 1) := by decide +kernel
theorem d_Mo_push_9 : decode m_Mo_push.2.1 9 = .ok (.iastore, 1) := by decide +kernel
theorem d_Mo_push_10 : decode m_Mo_push.2.1 10 = .ok (.aload_n 0, 1) := by decide +kernel
theorem d_Mo_push_11 : decode m_Mo_push.2.1 11 = .ok (.getfield 116, 3) := by decide +kernel
theorem d_Mo_push_14 : decode m_Mo_push.2.1 14 = .ok (.aload_n 0, 1) := by decide +kernel
theorem d_Mo_push_15 : decode m_Mo_push.2.1 15 = .ok (.getfield 216, 3) := by decide +kernel
theorem d_Mo_push_18 : decode m_Mo_push.2.1 18 = .ok (.iload_n 2, 1) := by decide +kernel
theorem d_Mo_push_19 : decode m_Mo_push.2.1 19 = .ok (.iastore, 1) := by decide +kernel
theorem d_Mo_push_20 : decode m_Mo_push.2.1 20 = .ok (.aload_n 0, 1) := by decide +kernel
theorem d_Mo_push_21 : decode m_Mo_push.2.1 21 = .ok (.getfield 119, 3) := by decide +kernel
theorem d_Mo_push_24 : decode m_Mo_push.2.1 24 = .ok (.aload_n 0, 1) := by decide +kernel
theorem d_Mo_push_25 : decode m_Mo_push.2.1 25 = .ok (.getfield 216, 3) := by decide +kernel
theorem d_Mo_push_28 : decode m_Mo_push.2.1 28 = .ok (.iload_n 3, 1) := by decide +kernel
theorem d_Mo_push_29 : decode m_Mo_push.2.1 29 = .ok (.iastore, 1) := by decide +kernel
theorem d_Mo_push_30 : decode m_Mo_push.2.1 30 = .ok (.aload_n 0, 1) := by decide +kernel
theorem d_Mo_push_31 : decode m_Mo_push.2.1 31 = .ok (.getfield 122, 3) := by decide +kernel
theorem d_Mo_push_34 : decode m_Mo_push.2.1 34 = .ok (.aload_n 0, 1) := by decide +kernel
theorem d_Mo_push_35 : decode m_Mo_push.2.1 35 = .ok (.getfield 216, 3) := by decide +kernel
theorem d_Mo_push_38 : decode m_Mo_push.2.1 38 = .ok (.iload 4, 2) := by decide +kernel
theorem d_Mo_push_40 : decode m_Mo_push.2.1 40 = .ok (.iastore, 1) := by decide +kernel
theorem d_Mo_push_41 : decode m_Mo_push.2.1 41 = .ok (.aload_n 0, 1) := by decide +kernel
theorem d_Mo_push_42 : decode m_Mo_push.2.1 42 = .ok (.getfield 137, 3) := by decide +kernel
theorem d_Mo_push_45 : decode m_Mo_push.2.1 45 = .ok (.aload_n 0, 1) := by decide +kernel
theorem d_Mo_push_46 : decode m_Mo_push.2.1 46 = .ok (.getfield 216, 3) := by decide +kernel
theorem d_Mo_push_49 : decode m_Mo_push.2.1 49 = .ok (.iload 5, 2) := by decide +kernel
theorem d_Mo_push_51 : decode m_Mo_push.2.1 51 = .ok (.iastore, 1) := by decide +kernel
theorem d_Mo_push_52 : decode m_Mo_push.2.1 52 = .ok (.aload_n 0, 1) := by decide +kernel
theorem d_Mo_push_53 : decode m_Mo_push.2.1 53 = .ok (.dup, 1) := by decide +kernel
theorem d_Mo_push_54 : decode m_Mo_push.2.1 54 = .ok (.getfield 216, 3) := by decide +kernel
theorem d_Mo_push_57 : decode m_Mo_push.2.1 57 = .ok (.iconst 1, 1) := by decide +kernel
theorem d_Mo_push_58 : decode m_Mo_push.2.1 58 = .ok (.iadd, 1) := by decide +kernel
theorem d_Mo_push_59 : decode m_Mo_push.2.1 59 = .ok (.putfield 216, 3) := by decide +kernel
theorem d_Mo_push_62 : decode m_Mo_push.2.1 62 = .ok (.return_, 1) := by decide +kernel
theorem d_Mo_at_0 : decode m_Mo_at.2.1 0 = .ok (.aload_n 0, 1) := by decide +kernel
theorem d_Mo_at_1 : decode m_Mo_at.2.1 1 = .ok (.getfield 125, 3) := by decide +kernel
theorem d_Mo_at_4 : decode m_Mo_at.2.1 4 = .ok (.aload_n 0, 1) := by decide +kernel
theorem d_Mo_at_5 : decode m_Mo_at.2.1 5 = .ok (.getfield 216, 3) := by decide +kernel
theorem d_Mo_at_8 : decode m_Mo_at.2.1 8 = .ok (.iconst 1, 1) := by decide +kernel
theorem d_Mo_at_9 : decode m_Mo_at.2.1 9 = .ok (.isub, 1) := by decide +kernel
theorem d_Mo_at_10 : decode m_Mo_at.2.1 10 = .ok (.iload_n 1, 1) := by decide +kernel
theorem d_Mo_at_11 : decode m_Mo_at.2.1 11 = .ok (.iastore, 1) := by decide +kernel
theorem d_Mo_at_12 : decode m_Mo_at.2.1 12 = .ok (.aload_n 0, 1) := by decide +kernel
theorem d_Mo_at_13 : decode m_Mo_at.2.1 13 = .ok (.getfield 128, 3) := by decide +kernel
theorem d_Mo_at_16 : decode m_Mo_at.2.1 16 = .ok (.aload_n 0, 1) := by decide +kernel
theorem d_Mo_at_17 : decode m_Mo_at.2.1 17 = .ok (.getfield 216, 3) := by decide +kernel
theorem d_Mo_at_20 : decode m_Mo_at.2.1 20 = .ok (.iconst 1, 1) := by decide +kernel
theorem d_Mo_at_21 : decode m_Mo_at.2.1 21 = .ok (.isub, 1) := by decide +kernel
theorem d_Mo_at_22 : decode m_Mo_at.2.1 22 = .ok (.iload_n 2, 1) := by decide +kernel
theorem d_Mo_at_23 : decode m_Mo_at.2.1 23 = .ok (.iastore, 1) := by decide +kernel
theorem d_Mo_at_24 : decode m_Mo_at.2.1 24 = .ok (.aload_n 0, 1) := by decide +kernel
theorem d_Mo_at_25 : decode m_Mo_at.2.1 25 = .ok (.getfield 131, 3) := by decide +kernel
theorem d_Mo_at_28 : decode m_Mo_at.2.1 28 = .ok (.aload_n 0, 1) := by decide +kernel
theorem d_Mo_at_29 : decode m_Mo_at.2.1 29 = .ok (.getfield 216, 3) := by decide +kernel
theorem d_Mo_at_32 : decode m_Mo_at.2.1 32 = .ok (.iconst 1, 1) := by decide +kernel
theorem d_Mo_at_33 : decode m_Mo_at.2.1 33 = .ok (.isub, 1) := by decide +kernel
theorem d_Mo_at_34 : decode m_Mo_at.2.1 34 = .ok (.iload_n 3, 1) := by decide +kernel
theorem d_Mo_at_35 : decode m_Mo_at.2.1 35 = .ok (.iastore, 1) := by decide +kernel
theorem d_Mo_at_36 : decode m_Mo_at.2.1 36 = .ok (.aload_n 0, 1) := by decide +kernel
theorem d_Mo_at_37 : decode m_Mo_at.2.1 37 = .ok (.getfield 134, 3) := by decide +kernel
theorem d_Mo_at_40 : decode m_Mo_at.2.1 40 = .ok (.aload_n 0, 1) := by decide +kernel
theorem d_Mo_at_41 : decode m_Mo_at.2.1 41 = .ok (.getfield 216, 3) := by decide +kernel
theorem d_Mo_at_44 : decode m_Mo_at.2.1 44 = .ok (.iconst 1, 1) := by decide +kernel
theorem d_Mo_at_45 : decode m_Mo_at.2.1 45 = .ok (.isub, 1) := by decide +kernel
theorem d_Mo_at_46 : decode m_Mo_at.2.1 46 = .ok (.iload 4, 2) := by decide +kernel
theorem d_Mo_at_48 : decode m_Mo_at.2.1 48 = .ok (.iastore, 1) := by decide +kernel
theorem d_Mo_at_49 : decode m_Mo_at.2.1 49 = .ok (.return_, 1) := by decide +kernel
theorem d_Mo_grow_0 : decode m_Mo_grow.2.1 0 = .ok (.aload_n 0, 1) := by decide +kernel
theorem d_Mo_grow_1 : decode m_Mo_grow.2.1 1 = .ok (.dup, 1) := by decide +kernel
theorem d_Mo_grow_2 : decode m_Mo_grow.2.1 2 = .ok (.getfield 216, 3) := by decide +kernel
theorem d_Mo_grow_5 : decode m_Mo_grow.2.1 5 = .ok (.iconst 1, 1) := by decide +kernel
theorem d_Mo_grow_6 : decode m_Mo_grow.2.1 6 = .ok (.isub, 1) := by decide +kernel
theorem d_Mo_grow_7 : decode m_Mo_grow.2.1 7 = .ok (.putfield 216, 3) := by decide +kernel
theorem d_Mo_grow_10 : decode m_Mo_grow.2.1 10 = .ok (.aload_n 0, 1) := by decide +kernel
theorem d_Mo_grow_11 : decode m_Mo_grow.2.1 11 = .ok (.getfield 113, 3) := by decide +kernel
theorem d_Mo_grow_14 : decode m_Mo_grow.2.1 14 = .ok (.aload_n 0, 1) := by decide +kernel
theorem d_Mo_grow_15 : decode m_Mo_grow.2.1 15 = .ok (.getfield 216, 3) := by decide +kernel
theorem d_Mo_grow_18 : decode m_Mo_grow.2.1 18 = .ok (.iaload, 1) := by decide +kernel
theorem d_Mo_grow_19 : decode m_Mo_grow.2.1 19 = .ok (.istore_n 2, 1) := by decide +kernel
theorem d_Mo_grow_20 : decode m_Mo_grow.2.1 20 = .ok (.aload_n 0, 1) := by decide +kernel
theorem d_Mo_grow_21 : decode m_Mo_grow.2.1 21 = .ok (.getfield 116, 3) := by decide +kernel
theorem d_Mo_grow_24 : decode m_Mo_grow.2.1 24 = .ok (.aload_n 0, 1) := by decide +kernel
theorem d_Mo_grow_25 : decode m_Mo_grow.2.1 25 = .ok (.getfield 216, 3) := by decide +kernel
theorem d_Mo_grow_28 : decode m_Mo_grow.2.1 28 = .ok (.iaload, 1) := by decide +kernel
theorem d_Mo_grow_29 : decode m_Mo_grow.2.1 29 = .ok (.istore_n 3, 1) := by decide +kernel
theorem d_Mo_grow_30 : decode m_Mo_grow.2.1 30 = .ok (.aload_n 0, 1) := by decide +kernel
theorem d_Mo_grow_31 : decode m_Mo_grow.2.1 31 = .ok (.getfield 119, 3) := by decide +kernel
theorem d_Mo_grow_34 : decode m_Mo_grow.2.1 34 = .ok (.aload_n 0, 1) := by decide +kernel
theorem d_Mo_grow_35 : decode m_Mo_grow.2.1 35 = .ok (.getfield 216, 3) := by decide +kernel
theorem d_Mo_grow_38 : decode m_Mo_grow.2.1 38 = .ok (.iaload, 1) := by decide +kernel
theorem d_Mo_grow_39 : decode m_Mo_grow.2.1 39 = .ok (.istore 4, 2) := by decide +kernel
theorem d_Mo_grow_41 : decode m_Mo_grow.2.1 41 = .ok (.aload_n 0, 1) := by decide +kernel
theorem d_Mo_grow_42 : decode m_Mo_grow.2.1 42 = .ok (.getfield 122, 3) := by decide +kernel
theorem d_Mo_grow_45 : decode m_Mo_grow.2.1 45 = .ok (.aload_n 0, 1) := by decide +kernel
theorem d_Mo_grow_46 : decode m_Mo_grow.2.1 46 = .ok (.getfield 216, 3) := by decide +kernel
theorem d_Mo_grow_49 : decode m_Mo_grow.2.1 49 = .ok (.iaload, 1) := by decide +kernel
theorem d_Mo_grow_50 : decode m_Mo_grow.2.1 50 = .ok (.istore 5, 2) := by decide +kernel
theorem d_Mo_grow_52 : decode m_Mo_grow.2.1 52 = .ok (.sipush 160, 3) := by decide +kernel
theorem d_Mo_grow_55 : decode m_Mo_grow.2.1 55 = .ok (.iload_n 1, 1) := by decide +kernel
theorem d_Mo_grow_56 : decode m_Mo_grow.2.1 56 = .ok (.imul, 1) := by decide +kernel
theorem d_Mo_grow_57 : decode m_Mo_grow.2.1 57 = .ok (.aload_n 0, 1) := by decide +kernel
theorem d_Mo_grow_58 : decode m_Mo_grow.2.1 58 = .ok (.getfield 35, 3) := by decide +kernel
theorem d_Mo_grow_61 : decode m_Mo_grow.2.1 61 = .ok (.iload_n 1, 1) := by decide +kernel
theorem d_Mo_grow_62 : decode m_Mo_grow.2.1 62 = .ok (.iaload, 1) := by decide +kernel
theorem d_Mo_grow_63 : decode m_Mo_grow.2.1 63 = .ok (.iadd, 1) := by decide +kernel
theorem d_Mo_grow_64 : decode m_Mo_grow.2.1 64 = .ok (.istore 6, 2) := by decide +kernel
theorem d_Mo_grow_66 : decode m_Mo_grow.2.1 66 = .ok (.aload_n 0, 1) := by decide +kernel
theorem d_Mo_grow_67 : decode m_Mo_grow.2.1 67 = .ok (.getfield 35, 3) := by decide +kernel
theorem d_Mo_grow_70 : decode m_Mo_grow.2.1 70 = .ok (.iload_n 1, 1) := by decide +kernel
theorem d_Mo_grow_71 : decode m_Mo_grow.2.1 71 = .ok (.dup2, 1) := by decide +kernel
theorem d_Mo_grow_72 : decode m_Mo_grow.2.1 72 = .ok (.iaload, 1) := by decide +kernel
theorem d_Mo_grow_73 : decode m_Mo_grow.2.1 73 = .ok (.iconst 1, 1) := by decide +kernel
theorem d_Mo_grow_74 : decode m_Mo_grow.2.1 74 = .ok (.iadd, 1) := by decide +kernel
theorem d_Mo_grow_75 : decode m_Mo_grow.2.1 75 = .ok (.iastore, 1) := by decide +kernel
theorem d_Mo_grow_76 : decode m_Mo_grow.2.1 76 = .ok (.aload_n 0, 1) := by decide +kernel
theorem d_Mo_grow_77 : decode m_Mo_grow.2.1 77 = .ok (.getfield 41, 3) := by decide +kernel
theorem d_Mo_grow_80 : decode m_Mo_grow.2.1 80 = .ok (.iload 6, 2) := by decide +kernel
theorem d_Mo_grow_82 : decode m_Mo_grow.2.1 82 = .ok (.aload_n 0, 1) := by decide +kernel
theorem d_Mo_grow_83 : decode m_Mo_grow.2.1 83 = .ok (.getfield 125, 3) := by decide +kernel
theorem d_Mo_grow_86 : decode m_Mo_grow.2.1 86 = .ok (.aload_n 0, 1) := by decide +kernel
theorem d_Mo_grow_87 : decode m_Mo_grow.2.1 87 = .ok (.getfield 216, 3) := by decide +kernel
theorem d_Mo_grow_90 : decode m_Mo_grow.2.1 90 = .ok (.iaload, 1) := by decide +kernel
theorem d_Mo_grow_91 : decode m_Mo_grow.2.1 91 = .ok (.iastore, 1) := by decide +kernel
theorem d_Mo_grow_92 : decode m_Mo_grow.2.1 92 = .ok (.aload_n 0, 1) := by decide +kernel
theorem d_Mo_grow_93 : decode m_Mo_grow.2.1 93 = .ok (.getfield 44, 3) := by decide +kernel
theorem d_Mo_grow_96 : decode m_Mo_grow.2.1 96 = .ok (.iload 6, 2) := by decide +kernel
theorem d_Mo_grow_98 : decode m_Mo_grow.2.1 98 = .ok (.aload_n 0, 1) := by decide +kernel
theorem d_Mo_grow_99 : decode m_Mo_grow.2.1 99 = .ok (.getfield 128, 3) := by decide +kernel
theorem d_Mo_grow_102 : decode m_Mo_grow.2.1 102 = .ok (.aload_n 0, 1) := by decide +kernel
theorem d_Mo_grow_103 : decode m_Mo_grow.2.1 103 = .ok (.getfield 216, 3) := by decide +kernel
theorem d_Mo_grow_106 : decode m_Mo_grow.2.1 106 = .ok (.iaload, 1) := by decide +kernel
theorem d_Mo_grow_107 : decode m_Mo_grow.2.1 107 = .ok (.iastore, 1) := by decide +kernel
theorem d_Mo_grow_108 : decode m_Mo_grow.2.1 108 = .ok (.aload_n 0, 1) := by decide +kernel
theorem d_Mo_grow_109 : decode m_Mo_grow.2.1 109 = .ok (.getfield 47, 3) := by decide +kernel
theorem d_Mo_grow_112 : decode m_Mo_grow.2.1 112 = .ok (.iload 6, 2) := by decide +kernel
theorem d_Mo_grow_114 : decode m_Mo_grow.2.1 114 = .ok (.aload_n 0, 1) := by decide +kernel
theorem d_Mo_grow_115 : decode m_Mo_grow.2.1 115 = .ok (.getfield 131, 3) := by decide +kernel
theorem d_Mo_grow_118 : decode m_Mo_grow.2.1 118 = .ok (.aload_n 0, 1) := by decide +kernel
theorem d_Mo_grow_119 : decode m_Mo_grow.2.1 119 = .ok (.getfield 216, 3) := by decide +kernel
theorem d_Mo_grow_122 : decode m_Mo_grow.2.1 122 = .ok (.iaload, 1) := by decide +kernel
theorem d_Mo_grow_123 : decode m_Mo_grow.2.1 123 = .ok (.iastore, 1) := by decide +kernel
theorem d_Mo_grow_124 : decode m_Mo_grow.2.1 124 = .ok (.aload_n 0, 1) := by decide +kernel
theorem d_Mo_grow_125 : decode m_Mo_grow.2.1 125 = .ok (.getfield 50, 3) := by decide +kernel
theorem d_Mo_grow_128 : decode m_Mo_grow.2.1 128 = .ok (.iload 6, 2) := by decide +kernel
theorem d_Mo_grow_130 : decode m_Mo_grow.2.1 130 = .ok (.aload_n 0, 1) := by decide +kernel
theorem d_Mo_grow_131 : decode m_Mo_grow.2.1 131 = .ok (.getfield 134, 3) := by decide +kernel
theorem d_Mo_grow_134 : decode m_Mo_grow.2.1 134 = .ok (.aload_n 0, 1) := by decide +kernel
theorem d_Mo_grow_135 : decode m_Mo_grow.2.1 135 = .ok (.getfield 216, 3) := by decide +kernel
theorem d_Mo_grow_138 : decode m_Mo_grow.2.1 138 = .ok (.iaload, 1) := by decide +kernel
theorem d_Mo_grow_139 : decode m_Mo_grow.2.1 139 = .ok (.iastore, 1) := by decide +kernel
theorem d_Mo_grow_140 : decode m_Mo_grow.2.1 140 = .ok (.aload_n 0, 1) := by decide +kernel
theorem d_Mo_grow_141 : decode m_Mo_grow.2.1 141 = .ok (.getfield 56, 3) := by decide +kernel
theorem d_Mo_grow_144 : decode m_Mo_grow.2.1 144 = .ok (.iload 6, 2) := by decide +kernel
theorem d_Mo_grow_146 : decode m_Mo_grow.2.1 146 = .ok (.iconst (-1), 1) := by decide +kernel
theorem d_Mo_grow_147 : decode m_Mo_grow.2.1 147 = .ok (.iastore, 1) := by decide +kernel
theorem d_Mo_grow_148 : decode m_Mo_grow.2.1 148 = .ok (.aload_n 0, 1) := by decide +kernel
theorem d_Mo_grow_149 : decode m_Mo_grow.2.1 149 = .ok (.getfield 59, 3) := by decide +kernel
theorem d_Mo_grow_152 : decode m_Mo_grow.2.1 152 = .ok (.iload 6, 2) := by decide +kernel
theorem d_Mo_grow_154 : decode m_Mo_grow.2.1 154 = .ok (.iconst (-1), 1) := by decide +kernel
theorem d_Mo_grow_155 : decode m_Mo_grow.2.1 155 = .ok (.iastore, 1) := by decide +kernel
theorem d_Mo_grow_156 : decode m_Mo_grow.2.1 156 = .ok (.aload_n 0, 1) := by decide +kernel
theorem d_Mo_grow_157 : decode m_Mo_grow.2.1 157 = .ok (.getfield 62, 3) := by decide +kernel
theorem d_Mo_grow_160 : decode m_Mo_grow.2.1 160 = .ok (.iload 6, 2) := by decide +kernel
theorem d_Mo_grow_162 : decode m_Mo_grow.2.1 162 = .ok (.iconst 0, 1) := by decide +kernel
theorem d_Mo_grow_163 : decode m_Mo_grow.2.1 163 = .ok (.iastore, 1) := by decide +kernel
theorem d_Mo_grow_164 : decode m_Mo_grow.2.1 164 = .ok (.aload_n 0, 1) := by decide +kernel
theorem d_Mo_grow_165 : decode m_Mo_grow.2.1 165 = .ok (.getfield 137, 3) := by decide +kernel
theorem d_Mo_grow_168 : decode m_Mo_grow.2.1 168 = .ok (.aload_n 0, 1) := by decide +kernel
theorem d_Mo_grow_169 : decode m_Mo_grow.2.1 169 = .ok (.getfield 216, 3) := by decide +kernel
theorem d_Mo_grow_172 : decode m_Mo_grow.2.1 172 = .ok (.iaload, 1) := by decide +kernel
theorem d_Mo_grow_173 : decode m_Mo_grow.2.1 173 = .ok (.istore 7, 2) := by decide +kernel
theorem d_Mo_grow_175 : decode m_Mo_grow.2.1 175 = .ok (.iload 7, 2) := by decide +kernel
theorem d_Mo_grow_177 : decode m_Mo_grow.2.1 177 = .ok (.ifCond .lt 109, 3) := by decide +kernel
theorem d_Mo_grow_180 : decode m_Mo_grow.2.1 180 = .ok (.sipush 160, 3) := by decide +kernel
theorem d_Mo_grow_183 : decode m_Mo_grow.2.1 183 = .ok (.iload_n 1, 1) := by decide +kernel
theorem d_Mo_grow_184 : decode m_Mo_grow.2.1 184 = .ok (.imul, 1) := by decide +kernel
theorem d_Mo_grow_185 : decode m_Mo_grow.2.1 185 = .ok (.iload 7, 2) := by decide +kernel
theorem d_Mo_grow_187 : decode m_Mo_grow.2.1 187 = .ok (.iadd, 1) := by decide +kernel
theorem d_Mo_grow_188 : decode m_Mo_grow.2.1 188 = .ok (.iconst 1, 1) := by decide +kernel
theorem d_Mo_grow_189 : decode m_Mo_grow.2.1 189 = .ok (.iadd, 1) := by decide +kernel
theorem d_Mo_grow_190 : decode m_Mo_grow.2.1 190 = .ok (.iload 6, 2) := by decide +kernel
theorem d_Mo_grow_192 : decode m_Mo_grow.2.1 192 = .ok (.if_icmp .ne 7, 3) := by decide +kernel
theorem d_Mo_grow_195 : decode m_Mo_grow.2.1 195 = .ok (.iconst 1, 1) := by decide +kernel
theorem d_Mo_grow_196 : decode m_Mo_grow.2.1 196 = .ok (.goto 4, 3) := by decide +kernel
theorem d_Mo_grow_199 : decode m_Mo_grow.2.1 199 = .ok (.iconst 0, 1) := by decide +kernel
theorem d_Mo_grow_200 : decode m_Mo_grow.2.1 200 = .ok (.istore 8, 2) := by decide +kernel
theorem d_Mo_grow_202 : decode m_Mo_grow.2.1 202 = .ok (.aload_n 0, 1) := by decide +kernel
theorem d_Mo_grow_203 : decode m_Mo_grow.2.1 203 = .ok (.getfield 56, 3) := by decide +kernel
theorem d_Mo_grow_206 : decode m_Mo_grow.2.1 206 = .ok (.sipush 160, 3) := by decide +kernel
theorem d_Mo_grow_209 : decode m_Mo_grow.2.1 209 = .ok (.iload_n 1, 1) := by decide +kernel
theorem d_Mo_grow_210 : decode m_Mo_grow.2.1 210 = .ok (.imul, 1) := by decide +kernel
theorem d_Mo_grow_211 : decode m_Mo_grow.2.1 211 = .ok (.iload 7, 2) := by decide +kernel
theorem d_Mo_grow_213 : decode m_Mo_grow.2.1 213 = .ok (.iadd, 1) := by decide +kernel
theorem d_Mo_grow_214 : decode m_Mo_grow.2.1 214 = .ok (.iload 8, 2) := by decide +kernel
theorem d_Mo_grow_216 : decode m_Mo_grow.2.1 216 = .ok (.ifCond .eq 14, 3) := by decide +kernel
theorem d_Mo_grow_219 : decode m_Mo_grow.2.1 219 = .ok (.iload 6, 2) := by decide +kernel
theorem d_Mo_grow_221 : decode m_Mo_grow.2.1 221 = .ok (.sipush 160, 3) := by decide +kernel
theorem d_Mo_grow_224 : decode m_Mo_grow.2.1 224 = .ok (.iload_n 1, 1) := by decide +kernel
theorem d_Mo_grow_225 : decode m_Mo_grow.2.1 225 = .ok (.imul, 1) := by decide +kernel
theorem d_Mo_grow_226 : decode m_Mo_grow.2.1 226 = .ok (.isub, 1) := by decide +kernel
theorem d_Mo_grow_227 : decode m_Mo_grow.2.1 227 = .ok (.goto 16, 3) := by decide +kernel
theorem d_Mo_grow_230 : decode m_Mo_grow.2.1 230 = .ok (.aload_n 0, 1) := by decide +kernel
theorem d_Mo_grow_231 : decode m_Mo_grow.2.1 231 = .ok (.getfield 56, 3) := by decide +kernel
theorem d_Mo_grow_234 : decode m_Mo_grow.2.1 234 = .ok (.sipush 160, 3) := by decide +kernel
theorem d_Mo_grow_237 : decode m_Mo_grow.2.1 237 = .ok (.iload_n 1, 1) := by decide +kernel
theorem d_Mo_grow_238 : decode m_Mo_grow.2.1 238 = .ok (.imul, 1) := by decide +kernel
theorem d_Mo_grow_239 : decode m_Mo_grow.2.1 239 = .ok (.iload 7, 2) := by decide +kernel
theorem d_Mo_grow_241 : decode m_Mo_grow.2.1 241 = .ok (.iadd, 1) := by decide +kernel
theorem d_Mo_grow_242 : decode m_Mo_grow.2.1 242 = .ok (.iaload, 1) := by decide +kernel
theorem d_Mo_grow_243 : decode m_Mo_grow.2.1 243 = .ok (.iastore, 1) := by decide +kernel
theorem d_Mo_grow_244 : decode m_Mo_grow.2.1 244 = .ok (.aload_n 0, 1) := by decide +kernel
theorem d_Mo_grow_245 : decode m_Mo_grow.2.1 245 = .ok (.getfield 59, 3) := by decide +kernel
theorem d_Mo_grow_248 : decode m_Mo_grow.2.1 248 = .ok (.sipush 160, 3) := by decide +kernel
theorem d_Mo_grow_251 : decode m_Mo_grow.2.1 251 = .ok (.iload_n 1, 1) := by decide +kernel
theorem d_Mo_grow_252 : decode m_Mo_grow.2.1 252 = .ok (.imul, 1) := by decide +kernel
theorem d_Mo_grow_253 : decode m_Mo_grow.2.1 253 = .ok (.iload 7, 2) := by decide +kernel
theorem d_Mo_grow_255 : decode m_Mo_grow.2.1 255 = .ok (.iadd, 1) := by decide +kernel
theorem d_Mo_grow_256 : decode m_Mo_grow.2.1 256 = .ok (.iload 8, 2) := by decide +kernel
theorem d_Mo_grow_258 : decode m_Mo_grow.2.1 258 = .ok (.ifCond .eq 19, 3) := by decide +kernel
theorem d_Mo_grow_261 : decode m_Mo_grow.2.1 261 = .ok (.aload_n 0, 1) := by decide +kernel
theorem d_Mo_grow_262 : decode m_Mo_grow.2.1 262 = .ok (.getfield 59, 3) := by decide +kernel
theorem d_Mo_grow_265 : decode m_Mo_grow.2.1 265 = .ok (.sipush 160, 3) := by decide +kernel
theorem d_Mo_grow_268 : decode m_Mo_grow.2.1 268 = .ok (.iload_n 1, 1) := by decide +kernel
theorem d_Mo_grow_269 : decode m_Mo_grow.2.1 269 = .ok (.imul, 1) := by decide +kernel
theorem d_Mo_grow_270 : decode m_Mo_grow.2.1 270 = .ok (.iload 7, 2) := by decide +kernel
theorem d_Mo_grow_272 : decode m_Mo_grow.2.1 272 = .ok (.iadd, 1) := by decide +kernel
theorem d_Mo_grow_273 : decode m_Mo_grow.2.1 273 = .ok (.iaload, 1) := by decide +kernel
theorem d_Mo_grow_274 : decode m_Mo_grow.2.1 274 = .ok (.goto 11, 3) := by decide +kernel
theorem d_Mo_grow_277 : decode m_Mo_grow.2.1 277 = .ok (.iload 6, 2) := by decide +kernel
theorem d_Mo_grow_279 : decode m_Mo_grow.2.1 279 = .ok (.sipush 160, 3) := by decide +kernel
theorem d_Mo_grow_282 : decode m_Mo_grow.2.1 282 = .ok (.iload_n 1, 1) := by decide +kernel
theorem d_Mo_grow_283 : decode m_Mo_grow.2.1 283 = .ok (.imul, 1) := by decide +kernel
theorem d_Mo_grow_284 : decode m_Mo_grow.2.1 284 = .ok (.isub, 1) := by decide +kernel
theorem d_Mo_grow_285 : decode m_Mo_grow.2.1 285 = .ok (.iastore, 1) := by decide +kernel
theorem d_Mo_grow_286 : decode m_Mo_grow.2.1 286 = .ok (.aload_n 0, 1) := by decide +kernel
theorem d_Mo_grow_287 : decode m_Mo_grow.2.1 287 = .ok (.iload_n 2, 1) := by decide +kernel
theorem d_Mo_grow_288 : decode m_Mo_grow.2.1 288 = .ok (.iload_n 3, 1) := by decide +kernel
theorem d_Mo_grow_289 : decode m_Mo_grow.2.1 289 = .ok (.iload 4, 2) := by decide +kernel
theorem d_Mo_grow_291 : decode m_Mo_grow.2.1 291 = .ok (.iload 5, 2) := by decide +kernel
theorem d_Mo_grow_293 : decode m_Mo_grow.2.1 293 = .ok (.invokevirtual 222, 3) := by decide +kernel
theorem d_Mo_grow_296 : decode m_Mo_grow.2.1 296 = .ok (.istore 8, 2) := by decide +kernel
theorem d_Mo_grow_298 : decode m_Mo_grow.2.1 298 = .ok (.iload_n 2, 1) := by decide +kernel
theorem d_Mo_grow_299 : decode m_Mo_grow.2.1 299 = .ok (.iconst 3, 1) := by decide +kernel
theorem d_Mo_grow_300 : decode m_Mo_grow.2.1 300 = .ok (.if_icmp .ge 79, 3) := by decide +kernel
theorem d_Mo_grow_303 : decode m_Mo_grow.2.1 303 = .ok (.iload 8, 2) := by decide +kernel
theorem d_Mo_grow_305 : decode m_Mo_grow.2.1 305 = .ok (.ifCond .le 74, 3) := by decide +kernel
theorem d_Mo_grow_308 : decode m_Mo_grow.2.1 308 = .ok (.iload 8, 2) := by decide +kernel
theorem d_Mo_grow_310 : decode m_Mo_grow.2.1 310 = .ok (.iload_n 2, 1) := by decide +kernel
theorem d_Mo_grow_311 : decode m_Mo_grow.2.1 311 = .ok (.iconst 1, 1) := by decide +kernel
theorem d_Mo_grow_312 : decode m_Mo_grow.2.1 312 = .ok (.if_icmp .ne 13, 3) := by decide +kernel
theorem d_Mo_grow_315 : decode m_Mo_grow.2.1 315 = .ok (.aload_n 0, 1) := by decide +kernel
theorem d_Mo_grow_316 : decode m_Mo_grow.2.1 316 = .ok (.getfield 50, 3) := by decide +kernel
theorem d_Mo_grow_319 : decode m_Mo_grow.2.1 319 = .ok (.iload 6, 2) := by decide +kernel
theorem d_Mo_grow_321 : decode m_Mo_grow.2.1 321 = .ok (.iaload, 1) := by decide +kernel
theorem d_Mo_grow_322 : decode m_Mo_grow.2.1 322 = .ok (.goto 10, 3) := by decide +kernel
theorem d_Mo_grow_325 : decode m_Mo_grow.2.1 325 = .ok (.aload_n 0, 1) := by decide +kernel
theorem d_Mo_grow_326 : decode m_Mo_grow.2.1 326 = .ok (.getfield 47, 3) := by decide +kernel
theorem d_Mo_grow_329 : decode m_Mo_grow.2.1 329 = .ok (.iload 6, 2) := by decide +kernel
theorem d_Mo_grow_331 : decode m_Mo_grow.2.1 331 = .ok (.iaload, 1) := by decide +kernel
theorem d_Mo_grow_332 : decode m_Mo_grow.2.1 332 = .ok (.if_icmp .ne 47, 3) := by decide +kernel
theorem d_Mo_grow_335 : decode m_Mo_grow.2.1 335 = .ok (.iinc 2 1, 3) := by decide +kernel
theorem d_Mo_grow_338 : decode m_Mo_grow.2.1 338 = .ok (.iload_n 2, 1) := by decide +kernel
theorem d_Mo_grow_339 : decode m_Mo_grow.2.1 339 = .ok (.iconst 1, 1) := by decide +kernel
theorem d_Mo_grow_340 : decode m_Mo_grow.2.1 340 = .ok (.if_icmp .ne 7, 3) := by decide +kernel
theorem d_Mo_grow_343 : decode m_Mo_grow.2.1 343 = .ok (.iconst 0, 1) := by decide +kernel
theorem d_Mo_grow_344 : decode m_Mo_grow.2.1 344 = .ok (.goto 5, 3) := by decide +kernel
theorem d_Mo_grow_347 : decode m_Mo_grow.2.1 347 = .ok (.iload 4, 2) := by decide +kernel
theorem d_Mo_grow_349 : decode m_Mo_grow.2.1 349 = .ok (.istore 4, 2) := by decide +kernel
theorem d_Mo_grow_351 : decode m_Mo_grow.2.1 351 = .ok (.iload_n 2, 1) := by decide +kernel
theorem d_Mo_grow_352 : decode m_Mo_grow.2.1 352 = .ok (.iconst 2, 1) := by decide +kernel
theorem d_Mo_grow_353 : decode m_Mo_grow.2.1 353 = .ok (.if_icmp .ne 7, 3) := by decide +kernel
theorem d_Mo_grow_356 : decode m_Mo_grow.2.1 356 = .ok (.iconst 0, 1) := by decide +kernel
theorem d_Mo_grow_357 : decode m_Mo_grow.2.1 357 = .ok (.goto 5, 3) := by decide +kernel
theorem d_Mo_grow_360 : decode m_Mo_grow.2.1 360 = .ok (.iload 5, 2) := by decide +kernel
theorem d_Mo_grow_362 : decode m_Mo_grow.2.1 362 = .ok (.istore 5, 2) := by decide +kernel
theorem d_Mo_grow_364 : decode m_Mo_grow.2.1 364 = .ok (.aload_n 0, 1) := by decide +kernel
theorem d_Mo_grow_365 : decode m_Mo_grow.2.1 365 = .ok (.iload_n 2, 1) := by decide +kernel
theorem d_Mo_grow_366 : decode m_Mo_grow.2.1 366 = .ok (.iload_n 3, 1) := by decide +kernel
theorem d_Mo_grow_367 : decode m_Mo_grow.2.1 367 = .ok (.iload 4, 2) := by decide +kernel
theorem d_Mo_grow_369 : decode m_Mo_grow.2.1 369 = .ok (.iload 5, 2) := by decide +kernel
theorem d_Mo_grow_371 : decode m_Mo_grow.2.1 371 = .ok (.invokevirtual 222, 3) := by decide +kernel
theorem d_Mo_grow_374 : decode m_Mo_grow.2.1 374 = .ok (.istore 8, 2) := by decide +kernel
theorem d_Mo_grow_376 : decode m_Mo_grow.2.1 376 = .ok (.goto (-78), 3) := by decide +kernel
theorem d_Mo_grow_379 : decode m_Mo_grow.2.1 379 = .ok (.iload 8, 2) := by decide +kernel
theorem d_Mo_grow_381 : decode m_Mo_grow.2.1 381 = .ok (.ifCond .ne 22, 3) := by decide +kernel
theorem d_Mo_grow_384 : decode m_Mo_grow.2.1 384 = .ok (.aload_n 0, 1) := by decide +kernel
theorem d_Mo_grow_385 : decode m_Mo_grow.2.1 385 = .ok (.getfield 38, 3) := by decide +kernel
theorem d_Mo_grow_388 : decode m_Mo_grow.2.1 388 = .ok (.iload 6, 2) := by decide +kernel
theorem d_Mo_grow_390 : decode m_Mo_grow.2.1 390 = .ok (.iconst 3, 1) := by decide +kernel
theorem d_Mo_grow_391 : decode m_Mo_grow.2.1 391 = .ok (.iastore, 1) := by decide +kernel
theorem d_Mo_grow_392 : decode m_Mo_grow.2.1 392 = .ok (.aload_n 0, 1) := by decide +kernel
theorem d_Mo_grow_393 : decode m_Mo_grow.2.1 393 = .ok (.getfield 53, 3) := by decide +kernel
theorem d_Mo_grow_396 : decode m_Mo_grow.2.1 396 = .ok (.iload 6, 2) := by decide +kernel
theorem d_Mo_grow_398 : decode m_Mo_grow.2.1 398 = .ok (.iconst (-1), 1) := by decide +kernel
theorem d_Mo_grow_399 : decode m_Mo_grow.2.1 399 = .ok (.iastore, 1) := by decide +kernel
theorem d_Mo_grow_400 : decode m_Mo_grow.2.1 400 = .ok (.goto 65, 3) := by decide +kernel
theorem d_Mo_grow_403 : decode m_Mo_grow.2.1 403 = .ok (.iload_n 2, 1) := by decide +kernel
theorem d_Mo_grow_404 : decode m_Mo_grow.2.1 404 = .ok (.iconst 3, 1) := by decide +kernel
theorem d_Mo_grow_405 : decode m_Mo_grow.2.1 405 = .ok (.if_icmp .ne 47, 3) := by decide +kernel
theorem d_Mo_grow_408 : decode m_Mo_grow.2.1 408 = .ok (.iload 8, 2) := by decide +kernel
theorem d_Mo_grow_410 : decode m_Mo_grow.2.1 410 = .ok (.aload_n 0, 1) := by decide +kernel
theorem d_Mo_grow_411 : decode m_Mo_grow.2.1 411 = .ok (.getfield 50, 3) := by decide +kernel
theorem d_Mo_grow_414 : decode m_Mo_grow.2.1 414 = .ok (.iload 6, 2) := by decide +kernel
theorem d_Mo_grow_416 : decode m_Mo_grow.2.1 416 = .ok (.iaload, 1) := by decide +kernel
theorem d_Mo_grow_417 : decode m_Mo_grow.2.1 417 = .ok (.if_icmp .ne 35, 3) := by decide +kernel
theorem d_Mo_grow_420 : decode m_Mo_grow.2.1 420 = .ok (.aload_n 0, 1) := by decide +kernel
theorem d_Mo_grow_421 : decode m_Mo_grow.2.1 421 = .ok (.getfield 38, 3) := by decide +kernel
theorem d_Mo_grow_424 : decode m_Mo_grow.2.1 424 = .ok (.iload 6, 2) := by decide +kernel
theorem d_Mo_grow_426 : decode m_Mo_grow.2.1 426 = .ok (.iconst 2, 1) := by decide +kernel
theorem d_Mo_grow_427 : decode m_Mo_grow.2.1 427 = .ok (.iastore, 1) := by decide +kernel
theorem d_Mo_grow_428 : decode m_Mo_grow.2.1 428 = .ok (.aload_n 0, 1) := by decide +kernel
theorem d_Mo_grow_429 : decode m_Mo_grow.2.1 429 = .ok (.getfield 53, 3) := by decide +kernel
theorem d_Mo_grow_432 : decode m_Mo_grow.2.1 432 = .ok (.iload 6, 2) := by decide +kernel
theorem d_Mo_grow_434 : decode m_Mo_grow.2.1 434 = .ok (.aload_n 0, 1) := by decide +kernel
theorem d_Mo_grow_435 : decode m_Mo_grow.2.1 435 = .ok (.getfield 95, 3) := by decide +kernel
theorem d_Mo_grow_438 : decode m_Mo_grow.2.1 438 = .ok (.aload_n 0, 1) := by decide +kernel
theorem d_Mo_grow_439 : decode m_Mo_grow.2.1 439 = .ok (.iload_n 3, 1) := by decide +kernel
theorem d_Mo_grow_440 : decode m_Mo_grow.2.1 440 = .ok (.iload 4, 2) := by decide +kernel
theorem d_Mo_grow_442 : decode m_Mo_grow.2.1 442 = .ok (.iload 5, 2) := by decide +kernel
theorem d_Mo_grow_444 : decode m_Mo_grow.2.1 444 = .ok (.invokevirtual 219, 3) := by decide +kernel
theorem d_Mo_grow_447 : decode m_Mo_grow.2.1 447 = .ok (.iaload, 1) := by decide +kernel
theorem d_Mo_grow_448 : decode m_Mo_grow.2.1 448 = .ok (.iastore, 1) := by decide +kernel
theorem d_Mo_grow_449 : decode m_Mo_grow.2.1 449 = .ok (.goto 16, 3) := by decide +kernel
theorem d_Mo_grow_452 : decode m_Mo_grow.2.1 452 = .ok (.aload_n 0, 1) := by decide +kernel
theorem d_Mo_grow_453 : decode m_Mo_grow.2.1 453 = .ok (.iload_n 1, 1) := by decide +kernel
theorem d_Mo_grow_454 : decode m_Mo_grow.2.1 454 = .ok (.iload 6, 2) := by decide +kernel
theorem d_Mo_grow_456 : decode m_Mo_grow.2.1 456 = .ok (.iload_n 2, 1) := by decide +kernel
theorem d_Mo_grow_457 : decode m_Mo_grow.2.1 457 = .ok (.iload_n 3, 1) := by decide +kernel
theorem d_Mo_grow_458 : decode m_Mo_grow.2.1 458 = .ok (.iload 4, 2) := by decide +kernel
theorem d_Mo_grow_460 : decode m_Mo_grow.2.1 460 = .ok (.iload 5, 2) := by decide +kernel
theorem d_Mo_grow_462 : decode m_Mo_grow.2.1 462 = .ok (.invokevirtual 226, 3) := by decide +kernel
theorem d_Mo_grow_465 : decode m_Mo_grow.2.1 465 = .ok (.return_, 1) := by decide +kernel
theorem d_Mo_reach_0 : decode m_Mo_reach.2.1 0 = .ok (.iload_n 1, 1) := by decide +kernel
theorem d_Mo_reach_1 : decode m_Mo_reach.2.1 1 = .ok (.iconst 1, 1) := by decide +kernel
theorem d_Mo_reach_2 : decode m_Mo_reach.2.1 2 = .ok (.if_icmp .le 19, 3) := by decide +kernel
theorem d_Mo_reach_5 : decode m_Mo_reach.2.1 5 = .ok (.iload_n 1, 1) := by decide +kernel
theorem d_Mo_reach_6 : decode m_Mo_reach.2.1 6 = .ok (.iconst 4, 1) := by decide +kernel
theorem d_Mo_reach_7 : decode m_Mo_reach.2.1 7 = .ok (.if_icmp .ge 14, 3) := by decide +kernel
theorem d_Mo_reach_10 : decode m_Mo_reach.2.1 10 = .ok (.aload_n 0, 1) := by decide +kernel
theorem d_Mo_reach_11 : decode m_Mo_reach.2.1 11 = .ok (.iload_n 2, 1) := by decide +kernel
theorem d_Mo_reach_12 : decode m_Mo_reach.2.1 12 = .ok (.iload_n 3, 1) := by decide +kernel
theorem d_Mo_reach_13 : decode m_Mo_reach.2.1 13 = .ok (.iload 4, 2) := by decide +kernel
theorem d_Mo_reach_15 : decode m_Mo_reach.2.1 15 = .ok (.invokevirtual 219, 3) := by decide +kernel
theorem d_Mo_reach_18 : decode m_Mo_reach.2.1 18 = .ok (.goto 4, 3) := by decide +kernel
theorem d_Mo_reach_21 : decode m_Mo_reach.2.1 21 = .ok (.iconst (-1), 1) := by decide +kernel
theorem d_Mo_reach_22 : decode m_Mo_reach.2.1 22 = .ok (.istore 5, 2) := by decide +kernel
theorem d_Mo_reach_24 : decode m_Mo_reach.2.1 24 = .ok (.iload_n 1, 1) := by decide +kernel
theorem d_Mo_reach_25 : decode m_Mo_reach.2.1 25 = .ok (.ifCond .ne 9, 3) := by decide +kernel
theorem d_Mo_reach_28 : decode m_Mo_reach.2.1 28 = .ok (.aload_n 0, 1) := by decide +kernel
theorem d_Mo_reach_29 : decode m_Mo_reach.2.1 29 = .ok (.iload_n 2, 1) := by decide +kernel
theorem d_Mo_reach_30 : decode m_Mo_reach.2.1 30 = .ok (.invokevirtual 183, 3) := by decide +kernel
theorem d_Mo_reach_33 : decode m_Mo_reach.2.1 33 = .ok (.ireturn, 1) := by decide +kernel
theorem d_Mo_reach_34 : decode m_Mo_reach.2.1 34 = .ok (.iload_n 1, 1) := by decide +kernel
theorem d_Mo_reach_35 : decode m_Mo_reach.2.1 35 = .ok (.iconst 1, 1) := by decide +kernel
theorem d_Mo_reach_36 : decode m_Mo_reach.2.1 36 = .ok (.if_icmp .ne 10, 3) := by decide +kernel
theorem d_Mo_reach_39 : decode m_Mo_reach.2.1 39 = .ok (.aload_n 0, 1) := by decide +kernel
theorem d_Mo_reach_40 : decode m_Mo_reach.2.1 40 = .ok (.iload_n 2, 1) := by decide +kernel
theorem d_Mo_reach_41 : decode m_Mo_reach.2.1 41 = .ok (.iload_n 3, 1) := by decide +kernel
theorem d_Mo_reach_42 : decode m_Mo_reach.2.1 42 = .ok (.invokevirtual 189, 3) := by decide +kernel
theorem d_Mo_reach_45 : decode m_Mo_reach.2.1 45 = .ok (.ireturn, 1) := by decide +kernel
theorem d_Mo_reach_46 : decode m_Mo_reach.2.1 46 = .ok (.iload 5, 2) := by decide +kernel
end
section
theorem d_Mo_reach_48 : decode m_Mo_reach.2.1 48 = .ok (.ifCond .ge 7, 3) := by decide +kernel
theorem d_Mo_reach_51 : decode m_Mo_reach.2.1 51 = .ok (.iconst 0, 1) := by decide +kernel
theorem d_Mo_reach_52 : decode m_Mo_reach.2.1 52 = .ok (.goto 25, 3) := by decide +kernel
theorem d_Mo_reach_55 : decode m_Mo_reach.2.1 55 = .ok (.iload_n 1, 1) := by decide +kernel
theorem d_Mo_reach_56 : decode m_Mo_reach.2.1 56 = .ok (.iconst 2, 1) := by decide +kernel
theorem d_Mo_reach_57 : decode m_Mo_reach.2.1 57 = .ok (.if_icmp .ne 13, 3) := by decide +kernel
theorem d_Mo_reach_60 : decode m_Mo_reach.2.1 60 = .ok (.aload_n 0, 1) := by decide +kernel
theorem d_Mo_reach_61 : decode m_Mo_reach.2.1 61 = .ok (.getfield 98, 3) := by decide +kernel
theorem d_Mo_reach_64 : decode m_Mo_reach.2.1 64 = .ok (.iload 5, 2) := by decide +kernel
theorem d_Mo_reach_66 : decode m_Mo_reach.2.1 66 = .ok (.iaload, 1) := by decide +kernel
theorem d_Mo_reach_67 : decode m_Mo_reach.2.1 67 = .ok (.goto 10, 3) := by decide +kernel
theorem d_Mo_reach_70 : decode m_Mo_reach.2.1 70 = .ok (.aload_n 0, 1) := by decide +kernel
theorem d_Mo_reach_71 : decode m_Mo_reach.2.1 71 = .ok (.getfield 101, 3) := by decide +kernel
theorem d_Mo_reach_74 : decode m_Mo_reach.2.1 74 = .ok (.iload 5, 2) := by decide +kernel
theorem d_Mo_reach_76 : decode m_Mo_reach.2.1 76 = .ok (.iaload, 1) := by decide +kernel
theorem d_Mo_reach_77 : decode m_Mo_reach.2.1 77 = .ok (.ireturn, 1) := by decide +kernel
theorem d_Mo_paneAt_0 : decode m_Mo_paneAt.2.1 0 = .ok (.iconst 0, 1) := by decide +kernel
theorem d_Mo_paneAt_1 : decode m_Mo_paneAt.2.1 1 = .ok (.istore 4, 2) := by decide +kernel
theorem d_Mo_paneAt_3 : decode m_Mo_paneAt.2.1 3 = .ok (.iconst 0, 1) := by decide +kernel
theorem d_Mo_paneAt_4 : decode m_Mo_paneAt.2.1 4 = .ok (.istore 5, 2) := by decide +kernel
theorem d_Mo_paneAt_6 : decode m_Mo_paneAt.2.1 6 = .ok (.iload 5, 2) := by decide +kernel
theorem d_Mo_paneAt_8 : decode m_Mo_paneAt.2.1 8 = .ok (.aload_n 0, 1) := by decide +kernel
theorem d_Mo_paneAt_9 : decode m_Mo_paneAt.2.1 9 = .ok (.getfield 174, 3) := by decide +kernel
theorem d_Mo_paneAt_12 : decode m_Mo_paneAt.2.1 12 = .ok (.if_icmp .ge 43, 3) := by decide +kernel
theorem d_Mo_paneAt_15 : decode m_Mo_paneAt.2.1 15 = .ok (.aload_n 0, 1) := by decide +kernel
theorem d_Mo_paneAt_16 : decode m_Mo_paneAt.2.1 16 = .ok (.getfield 104, 3) := by decide +kernel
theorem d_Mo_paneAt_19 : decode m_Mo_paneAt.2.1 19 = .ok (.iload 5, 2) := by decide +kernel
theorem d_Mo_paneAt_21 : decode m_Mo_paneAt.2.1 21 = .ok (.iaload, 1) := by decide +kernel
theorem d_Mo_paneAt_22 : decode m_Mo_paneAt.2.1 22 = .ok (.iload_n 1, 1) := by decide +kernel
theorem d_Mo_paneAt_23 : decode m_Mo_paneAt.2.1 23 = .ok (.if_icmp .ne 26, 3) := by decide +kernel
theorem d_Mo_paneAt_26 : decode m_Mo_paneAt.2.1 26 = .ok (.aload_n 0, 1) := by decide +kernel
theorem d_Mo_paneAt_27 : decode m_Mo_paneAt.2.1 27 = .ok (.getfield 107, 3) := by decide +kernel
theorem d_Mo_paneAt_30 : decode m_Mo_paneAt.2.1 30 = .ok (.iload 5, 2) := by decide +kernel
theorem d_Mo_paneAt_32 : decode m_Mo_paneAt.2.1 32 = .ok (.iaload, 1) := by decide +kernel
theorem d_Mo_paneAt_33 : decode m_Mo_paneAt.2.1 33 = .ok (.iload_n 2, 1) := by decide +kernel
theorem d_Mo_paneAt_34 : decode m_Mo_paneAt.2.1 34 = .ok (.if_icmp .ne 15, 3) := by decide +kernel
theorem d_Mo_paneAt_37 : decode m_Mo_paneAt.2.1 37 = .ok (.iload 4, 2) := by decide +kernel
theorem d_Mo_paneAt_39 : decode m_Mo_paneAt.2.1 39 = .ok (.iload_n 3, 1) := by decide +kernel
theorem d_Mo_paneAt_40 : decode m_Mo_paneAt.2.1 40 = .ok (.if_icmp .ne 6, 3) := by decide +kernel
theorem d_Mo_paneAt_43 : decode m_Mo_paneAt.2.1 43 = .ok (.iload 5, 2) := by decide +kernel
theorem d_Mo_paneAt_45 : decode m_Mo_paneAt.2.1 45 = .ok (.ireturn, 1) := by decide +kernel
theorem d_Mo_paneAt_46 : decode m_Mo_paneAt.2.1 46 = .ok (.iinc 4 1, 3) := by decide +kernel
theorem d_Mo_paneAt_49 : decode m_Mo_paneAt.2.1 49 = .ok (.iinc 5 1, 3) := by decide +kernel
theorem d_Mo_paneAt_52 : decode m_Mo_paneAt.2.1 52 = .ok (.goto (-46), 3) := by decide +kernel
theorem d_Mo_paneAt_55 : decode m_Mo_paneAt.2.1 55 = .ok (.iconst (-1), 1) := by decide +kernel
theorem d_Mo_paneAt_56 : decode m_Mo_paneAt.2.1 56 = .ok (.ireturn, 1) := by decide +kernel
theorem d_Mo_columnWidth_0 : decode m_Mo_columnWidth.2.1 0 = .ok (.iconst 0, 1) := by decide +kernel
theorem d_Mo_columnWidth_1 : decode m_Mo_columnWidth.2.1 1 = .ok (.istore_n 2, 1) := by decide +kernel
theorem d_Mo_columnWidth_2 : decode m_Mo_columnWidth.2.1 2 = .ok (.iconst 0, 1) := by decide +kernel
theorem d_Mo_columnWidth_3 : decode m_Mo_columnWidth.2.1 3 = .ok (.istore_n 3, 1) := by decide +kernel
theorem d_Mo_columnWidth_4 : decode m_Mo_columnWidth.2.1 4 = .ok (.iload_n 3, 1) := by decide +kernel
theorem d_Mo_columnWidth_5 : decode m_Mo_columnWidth.2.1 5 = .ok (.aload_n 0, 1) := by decide +kernel
theorem d_Mo_columnWidth_6 : decode m_Mo_columnWidth.2.1 6 = .ok (.getfield 174, 3) := by decide +kernel
theorem d_Mo_columnWidth_9 : decode m_Mo_columnWidth.2.1 9 = .ok (.if_icmp .ge 49, 3) := by decide +kernel
theorem d_Mo_columnWidth_12 : decode m_Mo_columnWidth.2.1 12 = .ok (.aload_n 0, 1) := by decide +kernel
theorem d_Mo_columnWidth_13 : decode m_Mo_columnWidth.2.1 13 = .ok (.getfield 104, 3) := by decide +kernel
theorem d_Mo_columnWidth_16 : decode m_Mo_columnWidth.2.1 16 = .ok (.iload_n 3, 1) := by decide +kernel
theorem d_Mo_columnWidth_17 : decode m_Mo_columnWidth.2.1 17 = .ok (.iaload, 1) := by decide +kernel
theorem d_Mo_columnWidth_18 : decode m_Mo_columnWidth.2.1 18 = .ok (.iload_n 1, 1) := by decide +kernel
theorem d_Mo_columnWidth_19 : decode m_Mo_columnWidth.2.1 19 = .ok (.if_icmp .ne 17, 3) := by decide +kernel
theorem d_Mo_columnWidth_22 : decode m_Mo_columnWidth.2.1 22 = .ok (.aload_n 0, 1) := by decide +kernel
theorem d_Mo_columnWidth_23 : decode m_Mo_columnWidth.2.1 23 = .ok (.iload_n 1, 1) := by decide +kernel
theorem d_Mo_columnWidth_24 : decode m_Mo_columnWidth.2.1 24 = .ok (.aload_n 0, 1) := by decide +kernel
theorem d_Mo_columnWidth_25 : decode m_Mo_columnWidth.2.1 25 = .ok (.getfield 107, 3) := by decide +kernel
theorem d_Mo_columnWidth_28 : decode m_Mo_columnWidth.2.1 28 = .ok (.iload_n 3, 1) := by decide +kernel
theorem d_Mo_columnWidth_29 : decode m_Mo_columnWidth.2.1 29 = .ok (.iaload, 1) := by decide +kernel
theorem d_Mo_columnWidth_30 : decode m_Mo_columnWidth.2.1 30 = .ok (.invokevirtual 177, 3) := by decide +kernel
theorem d_Mo_columnWidth_33 : decode m_Mo_columnWidth.2.1 33 = .ok (.goto 4, 3) := by decide +kernel
theorem d_Mo_columnWidth_36 : decode m_Mo_columnWidth.2.1 36 = .ok (.iconst 0, 1) := by decide +kernel
theorem d_Mo_columnWidth_37 : decode m_Mo_columnWidth.2.1 37 = .ok (.istore 4, 2) := by decide +kernel
theorem d_Mo_columnWidth_39 : decode m_Mo_columnWidth.2.1 39 = .ok (.iload 4, 2) := by decide +kernel
theorem d_Mo_columnWidth_41 : decode m_Mo_columnWidth.2.1 41 = .ok (.iload_n 2, 1) := by decide +kernel
theorem d_Mo_columnWidth_42 : decode m_Mo_columnWidth.2.1 42 = .ok (.if_icmp .le 8, 3) := by decide +kernel
theorem d_Mo_columnWidth_45 : decode m_Mo_columnWidth.2.1 45 = .ok (.iload 4, 2) := by decide +kernel
theorem d_Mo_columnWidth_47 : decode m_Mo_columnWidth.2.1 47 = .ok (.goto 4, 3) := by decide +kernel
theorem d_Mo_columnWidth_50 : decode m_Mo_columnWidth.2.1 50 = .ok (.iload_n 2, 1) := by decide +kernel
theorem d_Mo_columnWidth_51 : decode m_Mo_columnWidth.2.1 51 = .ok (.istore_n 2, 1) := by decide +kernel
theorem d_Mo_columnWidth_52 : decode m_Mo_columnWidth.2.1 52 = .ok (.iinc 3 1, 3) := by decide +kernel
theorem d_Mo_columnWidth_55 : decode m_Mo_columnWidth.2.1 55 = .ok (.goto (-51), 3) := by decide +kernel
theorem d_Mo_columnWidth_58 : decode m_Mo_columnWidth.2.1 58 = .ok (.iload_n 2, 1) := by decide +kernel
theorem d_Mo_columnWidth_59 : decode m_Mo_columnWidth.2.1 59 = .ok (.ireturn, 1) := by decide +kernel
theorem d_Mo_rowWidth_0 : decode m_Mo_rowWidth.2.1 0 = .ok (.iconst 0, 1) := by decide +kernel
theorem d_Mo_rowWidth_1 : decode m_Mo_rowWidth.2.1 1 = .ok (.istore_n 3, 1) := by decide +kernel
theorem d_Mo_rowWidth_2 : decode m_Mo_rowWidth.2.1 2 = .ok (.iconst 0, 1) := by decide +kernel
theorem d_Mo_rowWidth_3 : decode m_Mo_rowWidth.2.1 3 = .ok (.istore 4, 2) := by decide +kernel
theorem d_Mo_rowWidth_5 : decode m_Mo_rowWidth.2.1 5 = .ok (.iload 4, 2) := by decide +kernel
theorem d_Mo_rowWidth_7 : decode m_Mo_rowWidth.2.1 7 = .ok (.aload_n 0, 1) := by decide +kernel
theorem d_Mo_rowWidth_8 : decode m_Mo_rowWidth.2.1 8 = .ok (.getfield 174, 3) := by decide +kernel
theorem d_Mo_rowWidth_11 : decode m_Mo_rowWidth.2.1 11 = .ok (.if_icmp .ge 45, 3) := by decide +kernel
theorem d_Mo_rowWidth_14 : decode m_Mo_rowWidth.2.1 14 = .ok (.aload_n 0, 1) := by decide +kernel
theorem d_Mo_rowWidth_15 : decode m_Mo_rowWidth.2.1 15 = .ok (.getfield 104, 3) := by decide +kernel
theorem d_Mo_rowWidth_18 : decode m_Mo_rowWidth.2.1 18 = .ok (.iload 4, 2) := by decide +kernel
theorem d_Mo_rowWidth_20 : decode m_Mo_rowWidth.2.1 20 = .ok (.iaload, 1) := by decide +kernel
theorem d_Mo_rowWidth_21 : decode m_Mo_rowWidth.2.1 21 = .ok (.iload_n 1, 1) := by decide +kernel
theorem d_Mo_rowWidth_22 : decode m_Mo_rowWidth.2.1 22 = .ok (.if_icmp .ne 26, 3) := by decide +kernel
theorem d_Mo_rowWidth_25 : decode m_Mo_rowWidth.2.1 25 = .ok (.aload_n 0, 1) := by decide +kernel
theorem d_Mo_rowWidth_26 : decode m_Mo_rowWidth.2.1 26 = .ok (.getfield 107, 3) := by decide +kernel
theorem d_Mo_rowWidth_29 : decode m_Mo_rowWidth.2.1 29 = .ok (.iload 4, 2) := by decide +kernel
theorem d_Mo_rowWidth_31 : decode m_Mo_rowWidth.2.1 31 = .ok (.iaload, 1) := by decide +kernel
theorem d_Mo_rowWidth_32 : decode m_Mo_rowWidth.2.1 32 = .ok (.iload_n 2, 1) := by decide +kernel
theorem d_Mo_rowWidth_33 : decode m_Mo_rowWidth.2.1 33 = .ok (.if_icmp .ne 15, 3) := by decide +kernel
theorem d_Mo_rowWidth_36 : decode m_Mo_rowWidth.2.1 36 = .ok (.iload_n 3, 1) := by decide +kernel
theorem d_Mo_rowWidth_37 : decode m_Mo_rowWidth.2.1 37 = .ok (.aload_n 0, 1) := by decide +kernel
theorem d_Mo_rowWidth_38 : decode m_Mo_rowWidth.2.1 38 = .ok (.getfield 98, 3) := by decide +kernel
theorem d_Mo_rowWidth_41 : decode m_Mo_rowWidth.2.1 41 = .ok (.iload 4, 2) := by decide +kernel
theorem d_Mo_rowWidth_43 : decode m_Mo_rowWidth.2.1 43 = .ok (.iaload, 1) := by decide +kernel
theorem d_Mo_rowWidth_44 : decode m_Mo_rowWidth.2.1 44 = .ok (.iadd, 1) := by decide +kernel
theorem d_Mo_rowWidth_45 : decode m_Mo_rowWidth.2.1 45 = .ok (.goto 4, 3) := by decide +kernel
theorem d_Mo_rowWidth_48 : decode m_Mo_rowWidth.2.1 48 = .ok (.iload_n 3, 1) := by decide +kernel
theorem d_Mo_rowWidth_49 : decode m_Mo_rowWidth.2.1 49 = .ok (.istore_n 3, 1) := by decide +kernel
theorem d_Mo_rowWidth_50 : decode m_Mo_rowWidth.2.1 50 = .ok (.iinc 4 1, 3) := by decide +kernel
theorem d_Mo_rowWidth_53 : decode m_Mo_rowWidth.2.1 53 = .ok (.goto (-48), 3) := by decide +kernel
theorem d_Mo_rowWidth_56 : decode m_Mo_rowWidth.2.1 56 = .ok (.iload_n 3, 1) := by decide +kernel
theorem d_Mo_rowWidth_57 : decode m_Mo_rowWidth.2.1 57 = .ok (.ireturn, 1) := by decide +kernel
theorem d_Mo_rowHeight_0 : decode m_Mo_rowHeight.2.1 0 = .ok (.iconst 0, 1) := by decide +kernel
theorem d_Mo_rowHeight_1 : decode m_Mo_rowHeight.2.1 1 = .ok (.istore_n 3, 1) := by decide +kernel
theorem d_Mo_rowHeight_2 : decode m_Mo_rowHeight.2.1 2 = .ok (.iconst 0, 1) := by decide +kernel
theorem d_Mo_rowHeight_3 : decode m_Mo_rowHeight.2.1 3 = .ok (.istore 4, 2) := by decide +kernel
theorem d_Mo_rowHeight_5 : decode m_Mo_rowHeight.2.1 5 = .ok (.iload 4, 2) := by decide +kernel
theorem d_Mo_rowHeight_7 : decode m_Mo_rowHeight.2.1 7 = .ok (.aload_n 0, 1) := by decide +kernel
theorem d_Mo_rowHeight_8 : decode m_Mo_rowHeight.2.1 8 = .ok (.getfield 174, 3) := by decide +kernel
theorem d_Mo_rowHeight_11 : decode m_Mo_rowHeight.2.1 11 = .ok (.if_icmp .ge 66, 3) := by decide +kernel
theorem d_Mo_rowHeight_14 : decode m_Mo_rowHeight.2.1 14 = .ok (.aload_n 0, 1) := by decide +kernel
theorem d_Mo_rowHeight_15 : decode m_Mo_rowHeight.2.1 15 = .ok (.getfield 104, 3) := by decide +kernel
theorem d_Mo_rowHeight_18 : decode m_Mo_rowHeight.2.1 18 = .ok (.iload 4, 2) := by decide +kernel
theorem d_Mo_rowHeight_20 : decode m_Mo_rowHeight.2.1 20 = .ok (.iaload, 1) := by decide +kernel
theorem d_Mo_rowHeight_21 : decode m_Mo_rowHeight.2.1 21 = .ok (.iload_n 1, 1) := by decide +kernel
theorem d_Mo_rowHeight_22 : decode m_Mo_rowHeight.2.1 22 = .ok (.if_icmp .ne 29, 3) := by decide +kernel
theorem d_Mo_rowHeight_25 : decode m_Mo_rowHeight.2.1 25 = .ok (.aload_n 0, 1) := by decide +kernel
theorem d_Mo_rowHeight_26 : decode m_Mo_rowHeight.2.1 26 = .ok (.getfield 107, 3) := by decide +kernel
theorem d_Mo_rowHeight_29 : decode m_Mo_rowHeight.2.1 29 = .ok (.iload 4, 2) := by decide +kernel
theorem d_Mo_rowHeight_31 : decode m_Mo_rowHeight.2.1 31 = .ok (.iaload, 1) := by decide +kernel
theorem d_Mo_rowHeight_32 : decode m_Mo_rowHeight.2.1 32 = .ok (.iload_n 2, 1) := by decide +kernel
theorem d_Mo_rowHeight_33 : decode m_Mo_rowHeight.2.1 33 = .ok (.if_icmp .ne 18, 3) := by decide +kernel
theorem d_Mo_rowHeight_36 : decode m_Mo_rowHeight.2.1 36 = .ok (.aload_n 0, 1) := by decide +kernel
theorem d_Mo_rowHeight_37 : decode m_Mo_rowHeight.2.1 37 = .ok (.getfield 101, 3) := by decide +kernel
theorem d_Mo_rowHeight_40 : decode m_Mo_rowHeight.2.1 40 = .ok (.iload 4, 2) := by decide +kernel
theorem d_Mo_rowHeight_42 : decode m_Mo_rowHeight.2.1 42 = .ok (.iaload, 1) := by decide +kernel
theorem d_Mo_rowHeight_43 : decode m_Mo_rowHeight.2.1 43 = .ok (.iload_n 3, 1) := by decide +kernel
theorem d_Mo_rowHeight_44 : decode m_Mo_rowHeight.2.1 44 = .ok (.if_icmp .le 7, 3) := by decide +kernel
theorem d_Mo_rowHeight_47 : decode m_Mo_rowHeight.2.1 47 = .ok (.iconst 1, 1) := by decide +kernel
theorem d_Mo_rowHeight_48 : decode m_Mo_rowHeight.2.1 48 = .ok (.goto 4, 3) := by decide +kernel
theorem d_Mo_rowHeight_51 : decode m_Mo_rowHeight.2.1 51 = .ok (.iconst 0, 1) := by decide +kernel
theorem d_Mo_rowHeight_52 : decode m_Mo_rowHeight.2.1 52 = .ok (.istore 5, 2) := by decide +kernel
theorem d_Mo_rowHeight_54 : decode m_Mo_rowHeight.2.1 54 = .ok (.iload 5, 2) := by decide +kernel
theorem d_Mo_rowHeight_56 : decode m_Mo_rowHeight.2.1 56 = .ok (.ifCond .eq 13, 3) := by decide +kernel
theorem d_Mo_rowHeight_59 : decode m_Mo_rowHeight.2.1 59 = .ok (.aload_n 0, 1) := by decide +kernel
theorem d_Mo_rowHeight_60 : decode m_Mo_rowHeight.2.1 60 = .ok (.getfield 101, 3) := by decide +kernel
theorem d_Mo_rowHeight_63 : decode m_Mo_rowHeight.2.1 63 = .ok (.iload 4, 2) := by decide +kernel
theorem d_Mo_rowHeight_65 : decode m_Mo_rowHeight.2.1 65 = .ok (.iaload, 1) := by decide +kernel
theorem d_Mo_rowHeight_66 : decode m_Mo_rowHeight.2.1 66 = .ok (.goto 4, 3) := by decide +kernel
theorem d_Mo_rowHeight_69 : decode m_Mo_rowHeight.2.1 69 = .ok (.iload_n 3, 1) := by decide +kernel
theorem d_Mo_rowHeight_70 : decode m_Mo_rowHeight.2.1 70 = .ok (.istore_n 3, 1) := by decide +kernel
theorem d_Mo_rowHeight_71 : decode m_Mo_rowHeight.2.1 71 = .ok (.iinc 4 1, 3) := by decide +kernel
theorem d_Mo_rowHeight_74 : decode m_Mo_rowHeight.2.1 74 = .ok (.goto (-69), 3) := by decide +kernel
theorem d_Mo_rowHeight_77 : decode m_Mo_rowHeight.2.1 77 = .ok (.iload_n 3, 1) := by decide +kernel
theorem d_Mo_rowHeight_78 : decode m_Mo_rowHeight.2.1 78 = .ok (.ireturn, 1) := by decide +kernel
theorem d_Mo_split_0 : decode m_Mo_split.2.1 0 = .ok (.aload_n 0, 1) := by decide +kernel
theorem d_Mo_split_1 : decode m_Mo_split.2.1 1 = .ok (.iload_n 3, 1) := by decide +kernel
theorem d_Mo_split_2 : decode m_Mo_split.2.1 2 = .ok (.iload 4, 2) := by decide +kernel
theorem d_Mo_split_4 : decode m_Mo_split.2.1 4 = .ok (.iload 5, 2) := by decide +kernel
theorem d_Mo_split_6 : decode m_Mo_split.2.1 6 = .ok (.iload 6, 2) := by decide +kernel
theorem d_Mo_split_8 : decode m_Mo_split.2.1 8 = .ok (.invokevirtual 222, 3) := by decide +kernel
theorem d_Mo_split_11 : decode m_Mo_split.2.1 11 = .ok (.istore 7, 2) := by decide +kernel
theorem d_Mo_split_13 : decode m_Mo_split.2.1 13 = .ok (.iload_n 3, 1) := by decide +kernel
theorem d_Mo_split_14 : decode m_Mo_split.2.1 14 = .ok (.iconst 2, 1) := by decide +kernel
theorem d_Mo_split_15 : decode m_Mo_split.2.1 15 = .ok (.irem, 1) := by decide +kernel
theorem d_Mo_split_16 : decode m_Mo_split.2.1 16 = .ok (.ifCond .ne 7, 3) := by decide +kernel
theorem d_Mo_split_19 : decode m_Mo_split.2.1 19 = .ok (.iconst 1, 1) := by decide +kernel
theorem d_Mo_split_20 : decode m_Mo_split.2.1 20 = .ok (.goto 4, 3) := by decide +kernel
theorem d_Mo_split_23 : decode m_Mo_split.2.1 23 = .ok (.iconst 0, 1) := by decide +kernel
theorem d_Mo_split_24 : decode m_Mo_split.2.1 24 = .ok (.istore 8, 2) := by decide +kernel
theorem d_Mo_split_26 : decode m_Mo_split.2.1 26 = .ok (.aload_n 0, 1) := by decide +kernel
theorem d_Mo_split_27 : decode m_Mo_split.2.1 27 = .ok (.getfield 38, 3) := by decide +kernel
theorem d_Mo_split_30 : decode m_Mo_split.2.1 30 = .ok (.iload_n 2, 1) := by decide +kernel
theorem d_Mo_split_31 : decode m_Mo_split.2.1 31 = .ok (.iload 8, 2) := by decide +kernel
theorem d_Mo_split_33 : decode m_Mo_split.2.1 33 = .ok (.ifCond .eq 7, 3) := by decide +kernel
theorem d_Mo_split_36 : decode m_Mo_split.2.1 36 = .ok (.iconst 0, 1) := by decide +kernel
theorem d_Mo_split_37 : decode m_Mo_split.2.1 37 = .ok (.goto 4, 3) := by decide +kernel
theorem d_Mo_split_40 : decode m_Mo_split.2.1 40 = .ok (.iconst 1, 1) := by decide +kernel
theorem d_Mo_split_41 : decode m_Mo_split.2.1 41 = .ok (.iastore, 1) := by decide +kernel
theorem d_Mo_split_42 : decode m_Mo_split.2.1 42 = .ok (.aload_n 0, 1) := by decide +kernel
theorem d_Mo_split_43 : decode m_Mo_split.2.1 43 = .ok (.getfield 53, 3) := by decide +kernel
theorem d_Mo_split_46 : decode m_Mo_split.2.1 46 = .ok (.iload_n 2, 1) := by decide +kernel
theorem d_Mo_split_47 : decode m_Mo_split.2.1 47 = .ok (.iload 7, 2) := by decide +kernel
theorem d_Mo_split_49 : decode m_Mo_split.2.1 49 = .ok (.iastore, 1) := by decide +kernel
theorem d_Mo_split_50 : decode m_Mo_split.2.1 50 = .ok (.iload_n 2, 1) := by decide +kernel
theorem d_Mo_split_51 : decode m_Mo_split.2.1 51 = .ok (.sipush 160, 3) := by decide +kernel
theorem d_Mo_split_54 : decode m_Mo_split.2.1 54 = .ok (.iload_n 1, 1) := by decide +kernel
theorem d_Mo_split_55 : decode m_Mo_split.2.1 55 = .ok (.imul, 1) := by decide +kernel
theorem d_Mo_split_56 : decode m_Mo_split.2.1 56 = .ok (.isub, 1) := by decide +kernel
theorem d_Mo_split_57 : decode m_Mo_split.2.1 57 = .ok (.istore 9, 2) := by decide +kernel
theorem d_Mo_split_59 : decode m_Mo_split.2.1 59 = .ok (.aload_n 0, 1) := by decide +kernel
theorem d_Mo_split_60 : decode m_Mo_split.2.1 60 = .ok (.iload_n 3, 1) := by decide +kernel
theorem d_Mo_split_61 : decode m_Mo_split.2.1 61 = .ok (.iconst 3, 1) := by decide +kernel
theorem d_Mo_split_62 : decode m_Mo_split.2.1 62 = .ok (.if_icmp .ne 7, 3) := by decide +kernel
theorem d_Mo_split_65 : decode m_Mo_split.2.1 65 = .ok (.iconst 4, 1) := by decide +kernel
theorem d_Mo_split_66 : decode m_Mo_split.2.1 66 = .ok (.goto 4, 3) := by decide +kernel
theorem d_Mo_split_69 : decode m_Mo_split.2.1 69 = .ok (.iload_n 3, 1) := by decide +kernel
theorem d_Mo_split_70 : decode m_Mo_split.2.1 70 = .ok (.iload_n 3, 1) := by decide +kernel
theorem d_Mo_split_71 : decode m_Mo_split.2.1 71 = .ok (.ifCond .ne 10, 3) := by decide +kernel
theorem d_Mo_split_74 : decode m_Mo_split.2.1 74 = .ok (.iload 4, 2) := by decide +kernel
theorem d_Mo_split_76 : decode m_Mo_split.2.1 76 = .ok (.iconst 1, 1) := by decide +kernel
theorem d_Mo_split_77 : decode m_Mo_split.2.1 77 = .ok (.iadd, 1) := by decide +kernel
theorem d_Mo_split_78 : decode m_Mo_split.2.1 78 = .ok (.goto 5, 3) := by decide +kernel
theorem d_Mo_split_81 : decode m_Mo_split.2.1 81 = .ok (.iload 4, 2) := by decide +kernel
theorem d_Mo_split_83 : decode m_Mo_split.2.1 83 = .ok (.iload_n 3, 1) := by decide +kernel
theorem d_Mo_split_84 : decode m_Mo_split.2.1 84 = .ok (.iconst 1, 1) := by decide +kernel
theorem d_Mo_split_85 : decode m_Mo_split.2.1 85 = .ok (.if_icmp .ne 10, 3) := by decide +kernel
theorem d_Mo_split_88 : decode m_Mo_split.2.1 88 = .ok (.iload 5, 2) := by decide +kernel
theorem d_Mo_split_90 : decode m_Mo_split.2.1 90 = .ok (.iconst 1, 1) := by decide +kernel
theorem d_Mo_split_91 : decode m_Mo_split.2.1 91 = .ok (.iadd, 1) := by decide +kernel
theorem d_Mo_split_92 : decode m_Mo_split.2.1 92 = .ok (.goto 5, 3) := by decide +kernel
theorem d_Mo_split_95 : decode m_Mo_split.2.1 95 = .ok (.iload 5, 2) := by decide +kernel
theorem d_Mo_split_97 : decode m_Mo_split.2.1 97 = .ok (.iload_n 3, 1) := by decide +kernel
theorem d_Mo_split_98 : decode m_Mo_split.2.1 98 = .ok (.iconst 2, 1) := by decide +kernel
theorem d_Mo_split_99 : decode m_Mo_split.2.1 99 = .ok (.if_icmp .ne 10, 3) := by decide +kernel
theorem d_Mo_split_102 : decode m_Mo_split.2.1 102 = .ok (.iload 6, 2) := by decide +kernel
theorem d_Mo_split_104 : decode m_Mo_split.2.1 104 = .ok (.iconst 1, 1) := by decide +kernel
theorem d_Mo_split_105 : decode m_Mo_split.2.1 105 = .ok (.iadd, 1) := by decide +kernel
theorem d_Mo_split_106 : decode m_Mo_split.2.1 106 = .ok (.goto 5, 3) := by decide +kernel
theorem d_Mo_split_109 : decode m_Mo_split.2.1 109 = .ok (.iload 6, 2) := by decide +kernel
theorem d_Mo_split_111 : decode m_Mo_split.2.1 111 = .ok (.iload 9, 2) := by decide +kernel
theorem d_Mo_split_113 : decode m_Mo_split.2.1 113 = .ok (.invokevirtual 230, 3) := by decide +kernel
theorem d_Mo_split_116 : decode m_Mo_split.2.1 116 = .ok (.aload_n 0, 1) := by decide +kernel
theorem d_Mo_split_117 : decode m_Mo_split.2.1 117 = .ok (.iload 8, 2) := by decide +kernel
theorem d_Mo_split_119 : decode m_Mo_split.2.1 119 = .ok (.ifCond .eq 15, 3) := by decide +kernel
theorem d_Mo_split_122 : decode m_Mo_split.2.1 122 = .ok (.aload_n 0, 1) := by decide +kernel
theorem d_Mo_split_123 : decode m_Mo_split.2.1 123 = .ok (.getfield 41, 3) := by decide +kernel
theorem d_Mo_split_126 : decode m_Mo_split.2.1 126 = .ok (.iload_n 2, 1) := by decide +kernel
theorem d_Mo_split_127 : decode m_Mo_split.2.1 127 = .ok (.iaload, 1) := by decide +kernel
theorem d_Mo_split_128 : decode m_Mo_split.2.1 128 = .ok (.iload 7, 2) := by decide +kernel
theorem d_Mo_split_130 : decode m_Mo_split.2.1 130 = .ok (.iadd, 1) := by decide +kernel
theorem d_Mo_split_131 : decode m_Mo_split.2.1 131 = .ok (.goto 9, 3) := by decide +kernel
theorem d_Mo_split_134 : decode m_Mo_split.2.1 134 = .ok (.aload_n 0, 1) := by decide +kernel
theorem d_Mo_split_135 : decode m_Mo_split.2.1 135 = .ok (.getfield 41, 3) := by decide +kernel
theorem d_Mo_split_138 : decode m_Mo_split.2.1 138 = .ok (.iload_n 2, 1) := by decide +kernel
theorem d_Mo_split_139 : decode m_Mo_split.2.1 139 = .ok (.iaload, 1) := by decide +kernel
theorem d_Mo_split_140 : decode m_Mo_split.2.1 140 = .ok (.iload 8, 2) := by decide +kernel
theorem d_Mo_split_142 : decode m_Mo_split.2.1 142 = .ok (.ifCond .eq 12, 3) := by decide +kernel
theorem d_Mo_split_145 : decode m_Mo_split.2.1 145 = .ok (.aload_n 0, 1) := by decide +kernel
theorem d_Mo_split_146 : decode m_Mo_split.2.1 146 = .ok (.getfield 44, 3) := by decide +kernel
theorem d_Mo_split_149 : decode m_Mo_split.2.1 149 = .ok (.iload_n 2, 1) := by decide +kernel
theorem d_Mo_split_150 : decode m_Mo_split.2.1 150 = .ok (.iaload, 1) := by decide +kernel
theorem d_Mo_split_151 : decode m_Mo_split.2.1 151 = .ok (.goto 12, 3) := by decide +kernel
theorem d_Mo_split_154 : decode m_Mo_split.2.1 154 = .ok (.aload_n 0, 1) := by decide +kernel
theorem d_Mo_split_155 : decode m_Mo_split.2.1 155 = .ok (.getfield 44, 3) := by decide +kernel
theorem d_Mo_split_158 : decode m_Mo_split.2.1 158 = .ok (.iload_n 2, 1) := by decide +kernel
theorem d_Mo_split_159 : decode m_Mo_split.2.1 159 = .ok (.iaload, 1) := by decide +kernel
theorem d_Mo_split_160 : decode m_Mo_split.2.1 160 = .ok (.iload 7, 2) := by decide +kernel
theorem d_Mo_split_162 : decode m_Mo_split.2.1 162 = .ok (.iadd, 1) := by decide +kernel
theorem d_Mo_split_163 : decode m_Mo_split.2.1 163 = .ok (.iload 8, 2) := by decide +kernel
theorem d_Mo_split_165 : decode m_Mo_split.2.1 165 = .ok (.ifCond .eq 15, 3) := by decide +kernel
theorem d_Mo_split_168 : decode m_Mo_split.2.1 168 = .ok (.aload_n 0, 1) := by decide +kernel
theorem d_Mo_split_169 : decode m_Mo_split.2.1 169 = .ok (.getfield 47, 3) := by decide +kernel
theorem d_Mo_split_172 : decode m_Mo_split.2.1 172 = .ok (.iload_n 2, 1) := by decide +kernel
theorem d_Mo_split_173 : decode m_Mo_split.2.1 173 = .ok (.iaload, 1) := by decide +kernel
theorem d_Mo_split_174 : decode m_Mo_split.2.1 174 = .ok (.iload 7, 2) := by decide +kernel
theorem d_Mo_split_176 : decode m_Mo_split.2.1 176 = .ok (.isub, 1) := by decide +kernel
theorem d_Mo_split_177 : decode m_Mo_split.2.1 177 = .ok (.goto 9, 3) := by decide +kernel
theorem d_Mo_split_180 : decode m_Mo_split.2.1 180 = .ok (.aload_n 0, 1) := by decide +kernel
theorem d_Mo_split_181 : decode m_Mo_split.2.1 181 = .ok (.getfield 47, 3) := by decide +kernel
theorem d_Mo_split_184 : decode m_Mo_split.2.1 184 = .ok (.iload_n 2, 1) := by decide +kernel
theorem d_Mo_split_185 : decode m_Mo_split.2.1 185 = .ok (.iaload, 1) := by decide +kernel
theorem d_Mo_split_186 : decode m_Mo_split.2.1 186 = .ok (.iload 8, 2) := by decide +kernel
theorem d_Mo_split_188 : decode m_Mo_split.2.1 188 = .ok (.ifCond .eq 12, 3) := by decide +kernel
theorem d_Mo_split_191 : decode m_Mo_split.2.1 191 = .ok (.aload_n 0, 1) := by decide +kernel
theorem d_Mo_split_192 : decode m_Mo_split.2.1 192 = .ok (.getfield 50, 3) := by decide +kernel
theorem d_Mo_split_195 : decode m_Mo_split.2.1 195 = .ok (.iload_n 2, 1) := by decide +kernel
theorem d_Mo_split_196 : decode m_Mo_split.2.1 196 = .ok (.iaload, 1) := by decide +kernel
theorem d_Mo_split_197 : decode m_Mo_split.2.1 197 = .ok (.goto 12, 3) := by decide +kernel
theorem d_Mo_split_200 : decode m_Mo_split.2.1 200 = .ok (.aload_n 0, 1) := by decide +kernel
theorem d_Mo_split_201 : decode m_Mo_split.2.1 201 = .ok (.getfield 50, 3) := by decide +kernel
theorem d_Mo_split_204 : decode m_Mo_split.2.1 204 = .ok (.iload_n 2, 1) := by decide +kernel
theorem d_Mo_split_205 : decode m_Mo_split.2.1 205 = .ok (.iaload, 1) := by decide +kernel
theorem d_Mo_split_206 : decode m_Mo_split.2.1 206 = .ok (.iload 7, 2) := by decide +kernel
theorem d_Mo_split_208 : decode m_Mo_split.2.1 208 = .ok (.isub, 1) := by decide +kernel
theorem d_Mo_split_209 : decode m_Mo_split.2.1 209 = .ok (.invokevirtual 233, 3) := by decide +kernel
theorem d_Mo_split_212 : decode m_Mo_split.2.1 212 = .ok (.aload_n 0, 1) := by decide +kernel
theorem d_Mo_split_213 : decode m_Mo_split.2.1 213 = .ok (.iload_n 3, 1) := by decide +kernel
theorem d_Mo_split_214 : decode m_Mo_split.2.1 214 = .ok (.iconst 3, 1) := by decide +kernel
theorem d_Mo_split_215 : decode m_Mo_split.2.1 215 = .ok (.if_icmp .ge 9, 3) := by decide +kernel
theorem d_Mo_split_218 : decode m_Mo_split.2.1 218 = .ok (.iload_n 3, 1) := by decide +kernel
theorem d_Mo_split_219 : decode m_Mo_split.2.1 219 = .ok (.iconst 1, 1) := by decide +kernel
theorem d_Mo_split_220 : decode m_Mo_split.2.1 220 = .ok (.iadd, 1) := by decide +kernel
theorem d_Mo_split_221 : decode m_Mo_split.2.1 221 = .ok (.goto 4, 3) := by decide +kernel
theorem d_Mo_split_224 : decode m_Mo_split.2.1 224 = .ok (.iconst 3, 1) := by decide +kernel
theorem d_Mo_split_225 : decode m_Mo_split.2.1 225 = .ok (.iload 4, 2) := by decide +kernel
theorem d_Mo_split_227 : decode m_Mo_split.2.1 227 = .ok (.iload_n 3, 1) := by decide +kernel
theorem d_Mo_split_228 : decode m_Mo_split.2.1 228 = .ok (.ifCond .ne 7, 3) := by decide +kernel
theorem d_Mo_split_231 : decode m_Mo_split.2.1 231 = .ok (.iconst 0, 1) := by decide +kernel
theorem d_Mo_split_232 : decode m_Mo_split.2.1 232 = .ok (.goto 5, 3) := by decide +kernel
theorem d_Mo_split_235 : decode m_Mo_split.2.1 235 = .ok (.iload 5, 2) := by decide +kernel
theorem d_Mo_split_237 : decode m_Mo_split.2.1 237 = .ok (.iload_n 3, 1) := by decide +kernel
theorem d_Mo_split_238 : decode m_Mo_split.2.1 238 = .ok (.iconst 1, 1) := by decide +kernel
theorem d_Mo_split_239 : decode m_Mo_split.2.1 239 = .ok (.if_icmp .ne 7, 3) := by decide +kernel
theorem d_Mo_split_242 : decode m_Mo_split.2.1 242 = .ok (.iconst 0, 1) := by decide +kernel
theorem d_Mo_split_243 : decode m_Mo_split.2.1 243 = .ok (.goto 5, 3) := by decide +kernel
theorem d_Mo_split_246 : decode m_Mo_split.2.1 246 = .ok (.iload 6, 2) := by decide +kernel
theorem d_Mo_split_248 : decode m_Mo_split.2.1 248 = .ok (.iload 9, 2) := by decide +kernel
theorem d_Mo_split_250 : decode m_Mo_split.2.1 250 = .ok (.invokevirtual 230, 3) := by decide +kernel
theorem d_Mo_split_253 : decode m_Mo_split.2.1 253 = .ok (.aload_n 0, 1) := by decide +kernel
theorem d_Mo_split_254 : decode m_Mo_split.2.1 254 = .ok (.aload_n 0, 1) := by decide +kernel
theorem d_Mo_split_255 : decode m_Mo_split.2.1 255 = .ok (.getfield 41, 3) := by decide +kernel
theorem d_Mo_split_258 : decode m_Mo_split.2.1 258 = .ok (.iload_n 2, 1) := by decide +kernel
theorem d_Mo_split_259 : decode m_Mo_split.2.1 259 = .ok (.iaload, 1) := by decide +kernel
theorem d_Mo_split_260 : decode m_Mo_split.2.1 260 = .ok (.aload_n 0, 1) := by decide +kernel
theorem d_Mo_split_261 : decode m_Mo_split.2.1 261 = .ok (.getfield 44, 3) := by decide +kernel
theorem d_Mo_split_264 : decode m_Mo_split.2.1 264 = .ok (.iload_n 2, 1) := by decide +kernel
theorem d_Mo_split_265 : decode m_Mo_split.2.1 265 = .ok (.iaload, 1) := by decide +kernel
theorem d_Mo_split_266 : decode m_Mo_split.2.1 266 = .ok (.iload 8, 2) := by decide +kernel
theorem d_Mo_split_268 : decode m_Mo_split.2.1 268 = .ok (.ifCond .eq 8, 3) := by decide +kernel
theorem d_Mo_split_271 : decode m_Mo_split.2.1 271 = .ok (.iload 7, 2) := by decide +kernel
theorem d_Mo_split_273 : decode m_Mo_split.2.1 273 = .ok (.goto 9, 3) := by decide +kernel
theorem d_Mo_split_276 : decode m_Mo_split.2.1 276 = .ok (.aload_n 0, 1) := by decide +kernel
theorem d_Mo_split_277 : decode m_Mo_split.2.1 277 = .ok (.getfield 47, 3) := by decide +kernel
theorem d_Mo_split_280 : decode m_Mo_split.2.1 280 = .ok (.iload_n 2, 1) := by decide +kernel
theorem d_Mo_split_281 : decode m_Mo_split.2.1 281 = .ok (.iaload, 1) := by decide +kernel
theorem d_Mo_split_282 : decode m_Mo_split.2.1 282 = .ok (.iload 8, 2) := by decide +kernel
theorem d_Mo_split_284 : decode m_Mo_split.2.1 284 = .ok (.ifCond .eq 12, 3) := by decide +kernel
theorem d_Mo_split_287 : decode m_Mo_split.2.1 287 = .ok (.aload_n 0, 1) := by decide +kernel
theorem d_Mo_split_288 : decode m_Mo_split.2.1 288 = .ok (.getfield 50, 3) := by decide +kernel
theorem d_Mo_split_291 : decode m_Mo_split.2.1 291 = .ok (.iload_n 2, 1) := by decide +kernel
theorem d_Mo_split_292 : decode m_Mo_split.2.1 292 = .ok (.iaload, 1) := by decide +kernel
theorem d_Mo_split_293 : decode m_Mo_split.2.1 293 = .ok (.goto 5, 3) := by decide +kernel
theorem d_Mo_split_296 : decode m_Mo_split.2.1 296 = .ok (.iload 7, 2) := by decide +kernel
theorem d_Mo_split_298 : decode m_Mo_split.2.1 298 = .ok (.invokevirtual 233, 3) := by decide +kernel
theorem d_Mo_split_301 : decode m_Mo_split.2.1 301 = .ok (.return_, 1) := by decide +kernel
theorem d_Mo_exact_0 : decode m_Mo_exact.2.1 0 = .ok (.aload_n 0, 1) := by decide +kernel
theorem d_Mo_exact_1 : decode m_Mo_exact.2.1 1 = .ok (.iload_n 1, 1) := by decide +kernel
theorem d_Mo_exact_2 : decode m_Mo_exact.2.1 2 = .ok (.invokevirtual 166, 3) := by decide +kernel
theorem d_Mo_exact_5 : decode m_Mo_exact.2.1 5 = .ok (.istore 5, 2) := by decide +kernel
theorem d_Mo_exact_7 : decode m_Mo_exact.2.1 7 = .ok (.iload 5, 2) := by decide +kernel
theorem d_Mo_exact_9 : decode m_Mo_exact.2.1 9 = .ok (.ifCond .lt 43, 3) := by decide +kernel
theorem d_Mo_exact_12 : decode m_Mo_exact.2.1 12 = .ok (.aload_n 0, 1) := by decide +kernel
theorem d_Mo_exact_13 : decode m_Mo_exact.2.1 13 = .ok (.iload_n 2, 1) := by decide +kernel
theorem d_Mo_exact_14 : decode m_Mo_exact.2.1 14 = .ok (.invokevirtual 253, 3) := by decide +kernel
theorem d_Mo_exact_17 : decode m_Mo_exact.2.1 17 = .ok (.ifCond .eq 35, 3) := by decide +kernel
theorem d_Mo_exact_20 : decode m_Mo_exact.2.1 20 = .ok (.iload_n 3, 1) := by decide +kernel
theorem d_Mo_exact_21 : decode m_Mo_exact.2.1 21 = .ok (.iconst (-1), 1) := by decide +kernel
theorem d_Mo_exact_22 : decode m_Mo_exact.2.1 22 = .ok (.if_icmp .eq 11, 3) := by decide +kernel
theorem d_Mo_exact_25 : decode m_Mo_exact.2.1 25 = .ok (.aload_n 0, 1) := by decide +kernel
theorem d_Mo_exact_26 : decode m_Mo_exact.2.1 26 = .ok (.iload_n 3, 1) := by decide +kernel
theorem d_Mo_exact_27 : decode m_Mo_exact.2.1 27 = .ok (.invokevirtual 253, 3) := by decide +kernel
theorem d_Mo_exact_30 : decode m_Mo_exact.2.1 30 = .ok (.ifCond .eq 22, 3) := by decide +kernel
theorem d_Mo_exact_33 : decode m_Mo_exact.2.1 33 = .ok (.iload 4, 2) := by decide +kernel
theorem d_Mo_exact_35 : decode m_Mo_exact.2.1 35 = .ok (.iconst (-1), 1) := by decide +kernel
theorem d_Mo_exact_36 : decode m_Mo_exact.2.1 36 = .ok (.if_icmp .eq 12, 3) := by decide +kernel
theorem d_Mo_exact_39 : decode m_Mo_exact.2.1 39 = .ok (.aload_n 0, 1) := by decide +kernel
theorem d_Mo_exact_40 : decode m_Mo_exact.2.1 40 = .ok (.iload 4, 2) := by decide +kernel
theorem d_Mo_exact_42 : decode m_Mo_exact.2.1 42 = .ok (.invokevirtual 253, 3) := by decide +kernel
theorem d_Mo_exact_45 : decode m_Mo_exact.2.1 45 = .ok (.ifCond .eq 7, 3) := by decide +kernel
theorem d_Mo_exact_48 : decode m_Mo_exact.2.1 48 = .ok (.iconst 1, 1) := by decide +kernel
theorem d_Mo_exact_49 : decode m_Mo_exact.2.1 49 = .ok (.goto 4, 3) := by decide +kernel
theorem d_Mo_exact_52 : decode m_Mo_exact.2.1 52 = .ok (.iconst 0, 1) := by decide +kernel
theorem d_Mo_exact_53 : decode m_Mo_exact.2.1 53 = .ok (.istore 6, 2) := by decide +kernel
theorem d_Mo_exact_55 : decode m_Mo_exact.2.1 55 = .ok (.aload_n 0, 1) := by decide +kernel
theorem d_Mo_exact_56 : decode m_Mo_exact.2.1 56 = .ok (.iload 6, 2) := by decide +kernel
theorem d_Mo_exact_58 : decode m_Mo_exact.2.1 58 = .ok (.ifCond .ne 7, 3) := by decide +kernel
theorem d_Mo_exact_61 : decode m_Mo_exact.2.1 61 = .ok (.iconst 1, 1) := by decide +kernel
theorem d_Mo_exact_62 : decode m_Mo_exact.2.1 62 = .ok (.goto 39, 3) := by decide +kernel
theorem d_Mo_exact_65 : decode m_Mo_exact.2.1 65 = .ok (.aload_n 0, 1) := by decide +kernel
theorem d_Mo_exact_66 : decode m_Mo_exact.2.1 66 = .ok (.getfield 23, 3) := by decide +kernel
theorem d_Mo_exact_69 : decode m_Mo_exact.2.1 69 = .ok (.iload 5, 2) := by decide +kernel
theorem d_Mo_exact_71 : decode m_Mo_exact.2.1 71 = .ok (.baload, 1) := by decide +kernel
theorem d_Mo_exact_72 : decode m_Mo_exact.2.1 72 = .ok (.ifCond .ne 24, 3) := by decide +kernel
theorem d_Mo_exact_75 : decode m_Mo_exact.2.1 75 = .ok (.aload_n 0, 1) := by decide +kernel
theorem d_Mo_exact_76 : decode m_Mo_exact.2.1 76 = .ok (.getfield 29, 3) := by decide +kernel
theorem d_Mo_exact_79 : decode m_Mo_exact.2.1 79 = .ok (.iload 5, 2) := by decide +kernel
theorem d_Mo_exact_81 : decode m_Mo_exact.2.1 81 = .ok (.iaload, 1) := by decide +kernel
theorem d_Mo_exact_82 : decode m_Mo_exact.2.1 82 = .ok (.ifCond .gt 14, 3) := by decide +kernel
theorem d_Mo_exact_85 : decode m_Mo_exact.2.1 85 = .ok (.aload_n 0, 1) := by decide +kernel
theorem d_Mo_exact_86 : decode m_Mo_exact.2.1 86 = .ok (.iload_n 2, 1) := by decide +kernel
theorem d_Mo_exact_87 : decode m_Mo_exact.2.1 87 = .ok (.iload_n 3, 1) := by decide +kernel
theorem d_Mo_exact_88 : decode m_Mo_exact.2.1 88 = .ok (.iload 4, 2) := by decide +kernel
theorem d_Mo_exact_90 : decode m_Mo_exact.2.1 90 = .ok (.invokevirtual 256, 3) := by decide +kernel
theorem d_Mo_exact_93 : decode m_Mo_exact.2.1 93 = .ok (.ifCond .ne 7, 3) := by decide +kernel
theorem d_Mo_exact_96 : decode m_Mo_exact.2.1 96 = .ok (.iconst 2, 1) := by decide +kernel
theorem d_Mo_exact_97 : decode m_Mo_exact.2.1 97 = .ok (.goto 4, 3) := by decide +kernel
theorem d_Mo_exact_100 : decode m_Mo_exact.2.1 100 = .ok (.iconst 0, 1) := by decide +kernel
theorem d_Mo_exact_101 : decode m_Mo_exact.2.1 101 = .ok (.putfield 140, 3) := by decide +kernel
theorem d_Mo_exact_104 : decode m_Mo_exact.2.1 104 = .ok (.aload_n 0, 1) := by decide +kernel
theorem d_Mo_exact_105 : decode m_Mo_exact.2.1 105 = .ok (.getfield 140, 3) := by decide +kernel
theorem d_Mo_exact_108 : decode m_Mo_exact.2.1 108 = .ok (.ifCond .le 5, 3) := by decide +kernel
theorem d_Mo_exact_111 : decode m_Mo_exact.2.1 111 = .ok (.iconst 0, 1) := by decide +kernel
theorem d_Mo_exact_112 : decode m_Mo_exact.2.1 112 = .ok (.ireturn, 1) := by decide +kernel
theorem d_Mo_exact_113 : decode m_Mo_exact.2.1 113 = .ok (.aload_n 0, 1) := by decide +kernel
theorem d_Mo_exact_114 : decode m_Mo_exact.2.1 114 = .ok (.iload 5, 2) := by decide +kernel
theorem d_Mo_exact_116 : decode m_Mo_exact.2.1 116 = .ok (.iload_n 2, 1) := by decide +kernel
theorem d_Mo_exact_117 : decode m_Mo_exact.2.1 117 = .ok (.iload_n 3, 1) := by decide +kernel
theorem d_Mo_exact_118 : decode m_Mo_exact.2.1 118 = .ok (.iload 4, 2) := by decide +kernel
theorem d_Mo_exact_120 : decode m_Mo_exact.2.1 120 = .ok (.invokevirtual 260, 3) := by decide +kernel
theorem d_Mo_exact_123 : decode m_Mo_exact.2.1 123 = .ok (.ifCond .eq 12, 3) := by decide +kernel
theorem d_Mo_exact_126 : decode m_Mo_exact.2.1 126 = .ok (.aload_n 0, 1) := by decide +kernel
theorem d_Mo_exact_127 : decode m_Mo_exact.2.1 127 = .ok (.iload 5, 2) := by decide +kernel
theorem d_Mo_exact_129 : decode m_Mo_exact.2.1 129 = .ok (.invokevirtual 244, 3) := by decide +kernel
theorem d_Mo_exact_132 : decode m_Mo_exact.2.1 132 = .ok (.goto 4, 3) := by decide +kernel
theorem d_Mo_exact_135 : decode m_Mo_exact.2.1 135 = .ok (.iconst 0, 1) := by decide +kernel
theorem d_Mo_exact_136 : decode m_Mo_exact.2.1 136 = .ok (.ireturn, 1) := by decide +kernel
theorem d_Mo_isOrder_0 : decode m_Mo_isOrder.2.1 0 = .ok (.iload_n 1, 1) := by decide +kernel
theorem d_Mo_isOrder_1 : decode m_Mo_isOrder.2.1 1 = .ok (.ifCond .lt 15, 3) := by decide +kernel
theorem d_Mo_isOrder_4 : decode m_Mo_isOrder.2.1 4 = .ok (.iload_n 1, 1) := by decide +kernel
theorem d_Mo_isOrder_5 : decode m_Mo_isOrder.2.1 5 = .ok (.aload_n 0, 1) := by decide +kernel
theorem d_Mo_isOrder_6 : decode m_Mo_isOrder.2.1 6 = .ok (.getfield 144, 3) := by decide +kernel
theorem d_Mo_isOrder_9 : decode m_Mo_isOrder.2.1 9 = .ok (.if_icmp .ge 7, 3) := by decide +kernel
theorem d_Mo_isOrder_12 : decode m_Mo_isOrder.2.1 12 = .ok (.iconst 1, 1) := by decide +kernel
theorem d_Mo_isOrder_13 : decode m_Mo_isOrder.2.1 13 = .ok (.goto 4, 3) := by decide +kernel
theorem d_Mo_isOrder_16 : decode m_Mo_isOrder.2.1 16 = .ok (.iconst 0, 1) := by decide +kernel
theorem d_Mo_isOrder_17 : decode m_Mo_isOrder.2.1 17 = .ok (.ireturn, 1) := by decide +kernel
theorem d_Mo_hasOpen_0 : decode m_Mo_hasOpen.2.1 0 = .ok (.iconst 1, 1) := by decide +kernel
theorem d_Mo_hasOpen_1 : decode m_Mo_hasOpen.2.1 1 = .ok (.istore 4, 2) := by decide +kernel
theorem d_Mo_hasOpen_3 : decode m_Mo_hasOpen.2.1 3 = .ok (.iconst 0, 1) := by decide +kernel
theorem d_Mo_hasOpen_4 : decode m_Mo_hasOpen.2.1 4 = .ok (.istore 5, 2) := by decide +kernel
theorem d_Mo_hasOpen_6 : decode m_Mo_hasOpen.2.1 6 = .ok (.iload 5, 2) := by decide +kernel
theorem d_Mo_hasOpen_8 : decode m_Mo_hasOpen.2.1 8 = .ok (.aload_n 0, 1) := by decide +kernel
theorem d_Mo_hasOpen_9 : decode m_Mo_hasOpen.2.1 9 = .ok (.getfield 144, 3) := by decide +kernel
theorem d_Mo_hasOpen_12 : decode m_Mo_hasOpen.2.1 12 = .ok (.if_icmp .ge 70, 3) := by decide +kernel
theorem d_Mo_hasOpen_15 : decode m_Mo_hasOpen.2.1 15 = .ok (.iload_n 1, 1) := by decide +kernel
theorem d_Mo_hasOpen_16 : decode m_Mo_hasOpen.2.1 16 = .ok (.iload 5, 2) := by decide +kernel
theorem d_Mo_hasOpen_18 : decode m_Mo_hasOpen.2.1 18 = .ok (.if_icmp .ne 7, 3) := by decide +kernel
theorem d_Mo_hasOpen_21 : decode m_Mo_hasOpen.2.1 21 = .ok (.iconst 1, 1) := by decide +kernel
theorem d_Mo_hasOpen_22 : decode m_Mo_hasOpen.2.1 22 = .ok (.goto 4, 3) := by decide +kernel
theorem d_Mo_hasOpen_25 : decode m_Mo_hasOpen.2.1 25 = .ok (.iconst 0, 1) := by decide +kernel
theorem d_Mo_hasOpen_26 : decode m_Mo_hasOpen.2.1 26 = .ok (.iload_n 2, 1) := by decide +kernel
theorem d_Mo_hasOpen_27 : decode m_Mo_hasOpen.2.1 27 = .ok (.iload 5, 2) := by decide +kernel
theorem d_Mo_hasOpen_29 : decode m_Mo_hasOpen.2.1 29 = .ok (.if_icmp .ne 7, 3) := by decide +kernel
theorem d_Mo_hasOpen_32 : decode m_Mo_hasOpen.2.1 32 = .ok (.iconst 1, 1) := by decide +kernel
theorem d_Mo_hasOpen_33 : decode m_Mo_hasOpen.2.1 33 = .ok (.goto 4, 3) := by decide +kernel
theorem d_Mo_hasOpen_36 : decode m_Mo_hasOpen.2.1 36 = .ok (.iconst 0, 1) := by decide +kernel
theorem d_Mo_hasOpen_37 : decode m_Mo_hasOpen.2.1 37 = .ok (.iadd, 1) := by decide +kernel
theorem d_Mo_hasOpen_38 : decode m_Mo_hasOpen.2.1 38 = .ok (.iload_n 3, 1) := by decide +kernel
theorem d_Mo_hasOpen_39 : decode m_Mo_hasOpen.2.1 39 = .ok (.iload 5, 2) := by decide +kernel
theorem d_Mo_hasOpen_41 : decode m_Mo_hasOpen.2.1 41 = .ok (.if_icmp .ne 7, 3) := by decide +kernel
theorem d_Mo_hasOpen_44 : decode m_Mo_hasOpen.2.1 44 = .ok (.iconst 1, 1) := by decide +kernel
theorem d_Mo_hasOpen_45 : decode m_Mo_hasOpen.2.1 45 = .ok (.goto 4, 3) := by decide +kernel
theorem d_Mo_hasOpen_48 : decode m_Mo_hasOpen.2.1 48 = .ok (.iconst 0, 1) := by decide +kernel
theorem d_Mo_hasOpen_49 : decode m_Mo_hasOpen.2.1 49 = .ok (.iadd, 1) := by decide +kernel
theorem d_Mo_hasOpen_50 : decode m_Mo_hasOpen.2.1 50 = .ok (.istore 6, 2) := by decide +kernel
theorem d_Mo_hasOpen_52 : decode m_Mo_hasOpen.2.1 52 = .ok (.iload 4, 2) := by decide +kernel
theorem d_Mo_hasOpen_54 : decode m_Mo_hasOpen.2.1 54 = .ok (.ifCond .eq 19, 3) := by decide +kernel
theorem d_Mo_hasOpen_57 : decode m_Mo_hasOpen.2.1 57 = .ok (.iload 6, 2) := by decide +kernel
theorem d_Mo_hasOpen_59 : decode m_Mo_hasOpen.2.1 59 = .ok (.aload_n 0, 1) := by decide +kernel
theorem d_Mo_hasOpen_60 : decode m_Mo_hasOpen.2.1 60 = .ok (.getfield 74, 3) := by decide +kernel
theorem d_Mo_hasOpen_63 : decode m_Mo_hasOpen.2.1 63 = .ok (.iload 5, 2) := by decide +kernel
theorem d_Mo_hasOpen_65 : decode m_Mo_hasOpen.2.1 65 = .ok (.iaload, 1) := by decide +kernel
theorem d_Mo_hasOpen_66 : decode m_Mo_hasOpen.2.1 66 = .ok (.if_icmp .gt 7, 3) := by decide +kernel
theorem d_Mo_hasOpen_69 : decode m_Mo_hasOpen.2.1 69 = .ok (.iconst 1, 1) := by decide +kernel
theorem d_Mo_hasOpen_70 : decode m_Mo_hasOpen.2.1 70 = .ok (.goto 4, 3) := by decide +kernel
theorem d_Mo_hasOpen_73 : decode m_Mo_hasOpen.2.1 73 = .ok (.iconst 0, 1) := by decide +kernel
theorem d_Mo_hasOpen_74 : decode m_Mo_hasOpen.2.1 74 = .ok (.istore 4, 2) := by decide +kernel
theorem d_Mo_hasOpen_76 : decode m_Mo_hasOpen.2.1 76 = .ok (.iinc 5 1, 3) := by decide +kernel
theorem d_Mo_hasOpen_79 : decode m_Mo_hasOpen.2.1 79 = .ok (.goto (-73), 3) := by decide +kernel
theorem d_Mo_hasOpen_82 : decode m_Mo_hasOpen.2.1 82 = .ok (.iload 4, 2) := by decide +kernel
theorem d_Mo_hasOpen_84 : decode m_Mo_hasOpen.2.1 84 = .ok (.ireturn, 1) := by decide +kernel
theorem d_Mo_isFound_0 : decode m_Mo_isFound.2.1 0 = .ok (.iconst 0, 1) := by decide +kernel
theorem d_Mo_isFound_1 : decode m_Mo_isFound.2.1 1 = .ok (.istore 5, 2) := by decide +kernel
theorem d_Mo_isFound_3 : decode m_Mo_isFound.2.1 3 = .ok (.iload 5, 2) := by decide +kernel
theorem d_Mo_isFound_5 : decode m_Mo_isFound.2.1 5 = .ok (.iconst 2, 1) := by decide +kernel
theorem d_Mo_isFound_6 : decode m_Mo_isFound.2.1 6 = .ok (.if_icmp .ge 141, 3) := by decide +kernel
theorem d_Mo_isFound_9 : decode m_Mo_isFound.2.1 9 = .ok (.iconst 0, 1) := by decide +kernel
theorem d_Mo_isFound_10 : decode m_Mo_isFound.2.1 10 = .ok (.istore 6, 2) := by decide +kernel
theorem d_Mo_isFound_12 : decode m_Mo_isFound.2.1 12 = .ok (.iload 6, 2) := by decide +kernel
theorem d_Mo_isFound_14 : decode m_Mo_isFound.2.1 14 = .ok (.iload_n 3, 1) := by decide +kernel
theorem d_Mo_isFound_15 : decode m_Mo_isFound.2.1 15 = .ok (.ifCond .ge 7, 3) := by decide +kernel
theorem d_Mo_isFound_18 : decode m_Mo_isFound.2.1 18 = .ok (.iconst 1, 1) := by decide +kernel
theorem d_Mo_isFound_19 : decode m_Mo_isFound.2.1 19 = .ok (.goto 5, 3) := by decide +kernel
theorem d_Mo_isFound_22 : decode m_Mo_isFound.2.1 22 = .ok (.bipush 32, 2) := by decide +kernel
theorem d_Mo_isFound_24 : decode m_Mo_isFound.2.1 24 = .ok (.if_icmp .ge 117, 3) := by decide +kernel
theorem d_Mo_isFound_27 : decode m_Mo_isFound.2.1 27 = .ok (.iconst 0, 1) := by decide +kernel
theorem d_Mo_isFound_28 : decode m_Mo_isFound.2.1 28 = .ok (.istore 7, 2) := by decide +kernel
theorem d_Mo_isFound_30 : decode m_Mo_isFound.2.1 30 = .ok (.iload 7, 2) := by decide +kernel
theorem d_Mo_isFound_32 : decode m_Mo_isFound.2.1 32 = .ok (.iload 4, 2) := by decide +kernel
theorem d_Mo_isFound_34 : decode m_Mo_isFound.2.1 34 = .ok (.ifCond .ge 7, 3) := by decide +kernel
theorem d_Mo_isFound_37 : decode m_Mo_isFound.2.1 37 = .ok (.iconst 1, 1) := by decide +kernel
theorem d_Mo_isFound_38 : decode m_Mo_isFound.2.1 38 = .ok (.goto 5, 3) := by decide +kernel
theorem d_Mo_isFound_41 : decode m_Mo_isFound.2.1 41 = .ok (.bipush 32, 2) := by decide +kernel
theorem d_Mo_isFound_43 : decode m_Mo_isFound.2.1 43 = .ok (.if_icmp .ge 92, 3) := by decide +kernel
theorem d_Mo_isFound_46 : decode m_Mo_isFound.2.1 46 = .ok (.aload_n 0, 1) := by decide +kernel
theorem d_Mo_isFound_47 : decode m_Mo_isFound.2.1 47 = .ok (.iconst 0, 1) := by decide +kernel
theorem d_Mo_isFound_48 : decode m_Mo_isFound.2.1 48 = .ok (.putfield 174, 3) := by decide +kernel
theorem d_Mo_isFound_51 : decode m_Mo_isFound.2.1 51 = .ok (.aload_n 0, 1) := by decide +kernel
theorem d_Mo_isFound_52 : decode m_Mo_isFound.2.1 52 = .ok (.iload_n 2, 1) := by decide +kernel
theorem d_Mo_isFound_53 : decode m_Mo_isFound.2.1 53 = .ok (.iload 5, 2) := by decide +kernel
theorem d_Mo_isFound_55 : decode m_Mo_isFound.2.1 55 = .ok (.invokevirtual 247, 3) := by decide +kernel
theorem d_Mo_isFound_58 : decode m_Mo_isFound.2.1 58 = .ok (.istore 8, 2) := by decide +kernel
theorem d_Mo_isFound_60 : decode m_Mo_isFound.2.1 60 = .ok (.iload 8, 2) := by decide +kernel
theorem d_Mo_isFound_62 : decode m_Mo_isFound.2.1 62 = .ok (.ifCond .eq 21, 3) := by decide +kernel
theorem d_Mo_isFound_65 : decode m_Mo_isFound.2.1 65 = .ok (.iload_n 3, 1) := by decide +kernel
theorem d_Mo_isFound_66 : decode m_Mo_isFound.2.1 66 = .ok (.ifCond .lt 13, 3) := by decide +kernel
theorem d_Mo_isFound_69 : decode m_Mo_isFound.2.1 69 = .ok (.aload_n 0, 1) := by decide +kernel
theorem d_Mo_isFound_70 : decode m_Mo_isFound.2.1 70 = .ok (.iload_n 3, 1) := by decide +kernel
theorem d_Mo_isFound_71 : decode m_Mo_isFound.2.1 71 = .ok (.iload 6, 2) := by decide +kernel
theorem d_Mo_isFound_73 : decode m_Mo_isFound.2.1 73 = .ok (.invokevirtual 247, 3) := by decide +kernel
theorem d_Mo_isFound_76 : decode m_Mo_isFound.2.1 76 = .ok (.ifCond .eq 7, 3) := by decide +kernel
theorem d_Mo_isFound_79 : decode m_Mo_isFound.2.1 79 = .ok (.iconst 1, 1) := by decide +kernel
theorem d_Mo_isFound_80 : decode m_Mo_isFound.2.1 80 = .ok (.goto 4, 3) := by decide +kernel
theorem d_Mo_isFound_83 : decode m_Mo_isFound.2.1 83 = .ok (.iconst 0, 1) := by decide +kernel
theorem d_Mo_isFound_84 : decode m_Mo_isFound.2.1 84 = .ok (.istore 8, 2) := by decide +kernel
theorem d_Mo_isFound_86 : decode m_Mo_isFound.2.1 86 = .ok (.iload 8, 2) := by decide +kernel
theorem d_Mo_isFound_88 : decode m_Mo_isFound.2.1 88 = .ok (.ifCond .eq 23, 3) := by decide +kernel
theorem d_Mo_isFound_91 : decode m_Mo_isFound.2.1 91 = .ok (.iload 4, 2) := by decide +kernel
theorem d_Mo_isFound_93 : decode m_Mo_isFound.2.1 93 = .ok (.ifCond .lt 14, 3) := by decide +kernel
theorem d_Mo_isFound_96 : decode m_Mo_isFound.2.1 96 = .ok (.aload_n 0, 1) := by decide +kernel
theorem d_Mo_isFound_97 : decode m_Mo_isFound.2.1 97 = .ok (.iload 4, 2) := by decide +kernel
theorem d_Mo_isFound_99 : decode m_Mo_isFound.2.1 99 = .ok (.iload 7, 2) := by decide +kernel
theorem d_Mo_isFound_101 : decode m_Mo_isFound.2.1 101 = .ok (.invokevirtual 247, 3) := by decide +kernel
theorem d_Mo_isFound_104 : decode m_Mo_isFound.2.1 104 = .ok (.ifCond .eq 7, 3) := by decide +kernel
theorem d_Mo_isFound_107 : decode m_Mo_isFound.2.1 107 = .ok (.iconst 1, 1) := by decide +kernel
theorem d_Mo_isFound_108 : decode m_Mo_isFound.2.1 108 = .ok (.goto 4, 3) := by decide +kernel
theorem d_Mo_isFound_111 : decode m_Mo_isFound.2.1 111 = .ok (.iconst 0, 1) := by decide +kernel
theorem d_Mo_isFound_112 : decode m_Mo_isFound.2.1 112 = .ok (.istore 8, 2) := by decide +kernel
theorem d_Mo_isFound_114 : decode m_Mo_isFound.2.1 114 = .ok (.iload 8, 2) := by decide +kernel
theorem d_Mo_isFound_116 : decode m_Mo_isFound.2.1 116 = .ok (.ifCond .eq 13, 3) := by decide +kernel
theorem d_Mo_isFound_119 : decode m_Mo_isFound.2.1 119 = .ok (.aload_n 0, 1) := by decide +kernel
theorem d_Mo_isFound_120 : decode m_Mo_isFound.2.1 120 = .ok (.iload_n 1, 1) := by decide +kernel
theorem d_Mo_isFound_121 : decode m_Mo_isFound.2.1 121 = .ok (.invokevirtual 250, 3) := by decide +kernel
theorem d_Mo_isFound_124 : decode m_Mo_isFound.2.1 124 = .ok (.ifCond .eq 5, 3) := by decide +kernel
theorem d_Mo_isFound_127 : decode m_Mo_isFound.2.1 127 = .ok (.iconst 1, 1) := by decide +kernel
theorem d_Mo_isFound_128 : decode m_Mo_isFound.2.1 128 = .ok (.ireturn, 1) := by decide +kernel
theorem d_Mo_isFound_129 : decode m_Mo_isFound.2.1 129 = .ok (.iinc 7 1, 3) := by decide +kernel
theorem d_Mo_isFound_132 : decode m_Mo_isFound.2.1 132 = .ok (.goto (-102), 3) := by decide +kernel
theorem d_Mo_isFound_135 : decode m_Mo_isFound.2.1 135 = .ok (.iinc 6 1, 3) := by decide +kernel
theorem d_Mo_isFound_138 : decode m_Mo_isFound.2.1 138 = .ok (.goto (-126), 3) := by decide +kernel
theorem d_Mo_isFound_141 : decode m_Mo_isFound.2.1 141 = .ok (.iinc 5 1, 3) := by decide +kernel
theorem d_Mo_isFound_144 : decode m_Mo_isFound.2.1 144 = .ok (.goto (-141), 3) := by decide +kernel
theorem d_Mo_isFound_147 : decode m_Mo_isFound.2.1 147 = .ok (.iconst 0, 1) := by decide +kernel
theorem d_Mo_isFound_148 : decode m_Mo_isFound.2.1 148 = .ok (.ireturn, 1) := by decide +kernel
theorem d_Mo_name_0 : decode m_Mo_name.2.1 0 = .ok (.iload_n 2, 1) := by decide +kernel
theorem d_Mo_name_1 : decode m_Mo_name.2.1 1 = .ok (.bipush 8, 2) := by decide +kernel
theorem d_Mo_name_3 : decode m_Mo_name.2.1 3 = .ok (.idiv, 1) := by decide +kernel
theorem d_Mo_name_4 : decode m_Mo_name.2.1 4 = .ok (.istore_n 3, 1) := by decide +kernel
theorem d_Mo_name_5 : decode m_Mo_name.2.1 5 = .ok (.iload_n 2, 1) := by decide +kernel
theorem d_Mo_name_6 : decode m_Mo_name.2.1 6 = .ok (.iconst 2, 1) := by decide +kernel
theorem d_Mo_name_7 : decode m_Mo_name.2.1 7 = .ok (.idiv, 1) := by decide +kernel
theorem d_Mo_name_8 : decode m_Mo_name.2.1 8 = .ok (.iconst 4, 1) := by decide +kernel
theorem d_Mo_name_9 : decode m_Mo_name.2.1 9 = .ok (.irem, 1) := by decide +kernel
theorem d_Mo_name_10 : decode m_Mo_name.2.1 10 = .ok (.istore 4, 2) := by decide +kernel
theorem d_Mo_name_12 : decode m_Mo_name.2.1 12 = .ok (.iload_n 2, 1) := by decide +kernel
theorem d_Mo_name_13 : decode m_Mo_name.2.1 13 = .ok (.iconst 2, 1) := by decide +kernel
theorem d_Mo_name_14 : decode m_Mo_name.2.1 14 = .ok (.irem, 1) := by decide +kernel
theorem d_Mo_name_15 : decode m_Mo_name.2.1 15 = .ok (.iconst 1, 1) := by decide +kernel
theorem d_Mo_name_16 : decode m_Mo_name.2.1 16 = .ok (.if_icmp .ne 7, 3) := by decide +kernel
theorem d_Mo_name_19 : decode m_Mo_name.2.1 19 = .ok (.iconst 1, 1) := by decide +kernel
theorem d_Mo_name_20 : decode m_Mo_name.2.1 20 = .ok (.goto 4, 3) := by decide +kernel
theorem d_Mo_name_23 : decode m_Mo_name.2.1 23 = .ok (.iconst 0, 1) := by decide +kernel
theorem d_Mo_name_24 : decode m_Mo_name.2.1 24 = .ok (.istore 5, 2) := by decide +kernel
theorem d_Mo_name_26 : decode m_Mo_name.2.1 26 = .ok (.iload_n 3, 1) := by decide +kernel
theorem d_Mo_name_27 : decode m_Mo_name.2.1 27 = .ok (.aload_n 0, 1) := by decide +kernel
theorem d_Mo_name_28 : decode m_Mo_name.2.1 28 = .ok (.invokevirtual 180, 3) := by decide +kernel
theorem d_Mo_name_31 : decode m_Mo_name.2.1 31 = .ok (.if_icmp .gt 42, 3) := by decide +kernel
theorem d_Mo_name_34 : decode m_Mo_name.2.1 34 = .ok (.iload 4, 2) := by decide +kernel
theorem d_Mo_name_36 : decode m_Mo_name.2.1 36 = .ok (.aload_n 0, 1) := by decide +kernel
theorem d_Mo_name_37 : decode m_Mo_name.2.1 37 = .ok (.iload_n 3, 1) := by decide +kernel
theorem d_Mo_name_38 : decode m_Mo_name.2.1 38 = .ok (.invokevirtual 186, 3) := by decide +kernel
theorem d_Mo_name_41 : decode m_Mo_name.2.1 41 = .ok (.if_icmp .gt 32, 3) := by decide +kernel
theorem d_Mo_name_44 : decode m_Mo_name.2.1 44 = .ok (.iload 5, 2) := by decide +kernel
theorem d_Mo_name_46 : decode m_Mo_name.2.1 46 = .ok (.ifCond .eq 29, 3) := by decide +kernel
theorem d_Mo_name_49 : decode m_Mo_name.2.1 49 = .ok (.aload_n 0, 1) := by decide +kernel
theorem d_Mo_name_50 : decode m_Mo_name.2.1 50 = .ok (.getfield 71, 3) := by decide +kernel
theorem d_Mo_name_53 : decode m_Mo_name.2.1 53 = .ok (.iload_n 1, 1) := by decide +kernel
theorem d_Mo_name_54 : decode m_Mo_name.2.1 54 = .ok (.baload, 1) := by decide +kernel
theorem d_Mo_name_55 : decode m_Mo_name.2.1 55 = .ok (.ifCond .eq 18, 3) := by decide +kernel
theorem d_Mo_name_58 : decode m_Mo_name.2.1 58 = .ok (.aload_n 0, 1) := by decide +kernel
theorem d_Mo_name_59 : decode m_Mo_name.2.1 59 = .ok (.getfield 65, 3) := by decide +kernel
theorem d_Mo_name_62 : decode m_Mo_name.2.1 62 = .ok (.iload_n 1, 1) := by decide +kernel
theorem d_Mo_name_63 : decode m_Mo_name.2.1 63 = .ok (.iaload, 1) := by decide +kernel
theorem d_Mo_name_64 : decode m_Mo_name.2.1 64 = .ok (.aload_n 0, 1) := by decide +kernel
theorem d_Mo_name_65 : decode m_Mo_name.2.1 65 = .ok (.getfield 68, 3) := by decide +kernel
theorem d_Mo_name_68 : decode m_Mo_name.2.1 68 = .ok (.iload_n 1, 1) := by decide +kernel
theorem d_Mo_name_69 : decode m_Mo_name.2.1 69 = .ok (.iaload, 1) := by decide +kernel
theorem d_Mo_name_70 : decode m_Mo_name.2.1 70 = .ok (.if_icmp .ne 5, 3) := by decide +kernel
theorem d_Mo_name_73 : decode m_Mo_name.2.1 73 = .ok (.iconst 0, 1) := by decide +kernel
theorem d_Mo_name_74 : decode m_Mo_name.2.1 74 = .ok (.ireturn, 1) := by decide +kernel
theorem d_Mo_name_75 : decode m_Mo_name.2.1 75 = .ok (.aload_n 0, 1) := by decide +kernel
theorem d_Mo_name_76 : decode m_Mo_name.2.1 76 = .ok (.iload_n 1, 1) := by decide +kernel
theorem d_Mo_name_77 : decode m_Mo_name.2.1 77 = .ok (.iload 5, 2) := by decide +kernel
theorem d_Mo_name_79 : decode m_Mo_name.2.1 79 = .ok (.iload_n 3, 1) := by decide +kernel
theorem d_Mo_name_80 : decode m_Mo_name.2.1 80 = .ok (.iload 4, 2) := by decide +kernel
theorem d_Mo_name_82 : decode m_Mo_name.2.1 82 = .ok (.invokevirtual 212, 3) := by decide +kernel
theorem d_Mo_name_85 : decode m_Mo_name.2.1 85 = .ok (.iconst 1, 1) := by decide +kernel
theorem d_Mo_name_86 : decode m_Mo_name.2.1 86 = .ok (.ireturn, 1) := by decide +kernel
theorem d_Mo_columns_0 : decode m_Mo_columns.2.1 0 = .ok (.iconst 0, 1) := by decide +kernel
theorem d_Mo_columns_1 : decode m_Mo_columns.2.1 1 = .ok (.istore_n 1, 1) := by decide +kernel
theorem d_Mo_columns_2 : decode m_Mo_columns.2.1 2 = .ok (.iconst 0, 1) := by decide +kernel
theorem d_Mo_columns_3 : decode m_Mo_columns.2.1 3 = .ok (.istore_n 2, 1) := by decide +kernel
theorem d_Mo_columns_4 : decode m_Mo_columns.2.1 4 = .ok (.iload_n 2, 1) := by decide +kernel
theorem d_Mo_columns_5 : decode m_Mo_columns.2.1 5 = .ok (.aload_n 0, 1) := by decide +kernel
theorem d_Mo_columns_6 : decode m_Mo_columns.2.1 6 = .ok (.getfield 174, 3) := by decide +kernel
theorem d_Mo_columns_9 : decode m_Mo_columns.2.1 9 = .ok (.if_icmp .ge 32, 3) := by decide +kernel
theorem d_Mo_columns_12 : decode m_Mo_columns.2.1 12 = .ok (.aload_n 0, 1) := by decide +kernel
theorem d_Mo_columns_13 : decode m_Mo_columns.2.1 13 = .ok (.getfield 104, 3) := by decide +kernel
theorem d_Mo_columns_16 : decode m_Mo_columns.2.1 16 = .ok (.iload_n 2, 1) := by decide +kernel
theorem d_Mo_columns_17 : decode m_Mo_columns.2.1 17 = .ok (.iaload, 1) := by decide +kernel
theorem d_Mo_columns_18 : decode m_Mo_columns.2.1 18 = .ok (.iload_n 1, 1) := by decide +kernel
theorem d_Mo_columns_19 : decode m_Mo_columns.2.1 19 = .ok (.if_icmp .lt 14, 3) := by decide +kernel
theorem d_Mo_columns_22 : decode m_Mo_columns.2.1 22 = .ok (.aload_n 0, 1) := by decide +kernel
theorem d_Mo_columns_23 : decode m_Mo_columns.2.1 23 = .ok (.getfield 104, 3) := by decide +kernel
theorem d_Mo_columns_26 : decode m_Mo_columns.2.1 26 = .ok (.iload_n 2, 1) := by decide +kernel
theorem d_Mo_columns_27 : decode m_Mo_columns.2.1 27 = .ok (.iaload, 1) := by decide +kernel
theorem d_Mo_columns_28 : decode m_Mo_columns.2.1 28 = .ok (.iconst 1, 1) := by decide +kernel
theorem d_Mo_columns_29 : decode m_Mo_columns.2.1 29 = .ok (.iadd, 1) := by decide +kernel
theorem d_Mo_columns_30 : decode m_Mo_columns.2.1 30 = .ok (.goto 4, 3) := by decide +kernel
theorem d_Mo_columns_33 : decode m_Mo_columns.2.1 33 = .ok (.iload_n 1, 1) := by decide +kernel
theorem d_Mo_columns_34 : decode m_Mo_columns.2.1 34 = .ok (.istore_n 1, 1) := by decide +kernel
theorem d_Mo_columns_35 : decode m_Mo_columns.2.1 35 = .ok (.iinc 2 1, 3) := by decide +kernel
theorem d_Mo_columns_38 : decode m_Mo_columns.2.1 38 = .ok (.goto (-34), 3) := by decide +kernel
theorem d_Mo_columns_41 : decode m_Mo_columns.2.1 41 = .ok (.iload_n 1, 1) := by decide +kernel
theorem d_Mo_columns_42 : decode m_Mo_columns.2.1 42 = .ok (.ireturn, 1) := by decide +kernel
theorem d_Mo_rowsOf_0 : decode m_Mo_rowsOf.2.1 0 = .ok (.iconst 0, 1) := by decide +kernel
theorem d_Mo_rowsOf_1 : decode m_Mo_rowsOf.2.1 1 = .ok (.istore_n 2, 1) := by decide +kernel
theorem d_Mo_rowsOf_2 : decode m_Mo_rowsOf.2.1 2 = .ok (.iconst 0, 1) := by decide +kernel
theorem d_Mo_rowsOf_3 : decode m_Mo_rowsOf.2.1 3 = .ok (.istore_n 3, 1) := by decide +kernel
theorem d_Mo_rowsOf_4 : decode m_Mo_rowsOf.2.1 4 = .ok (.iload_n 3, 1) := by decide +kernel
theorem d_Mo_rowsOf_5 : decode m_Mo_rowsOf.2.1 5 = .ok (.aload_n 0, 1) := by decide +kernel
theorem d_Mo_rowsOf_6 : decode m_Mo_rowsOf.2.1 6 = .ok (.getfield 174, 3) := by decide +kernel
theorem d_Mo_rowsOf_9 : decode m_Mo_rowsOf.2.1 9 = .ok (.if_icmp .ge 42, 3) := by decide +kernel
theorem d_Mo_rowsOf_12 : decode m_Mo_rowsOf.2.1 12 = .ok (.aload_n 0, 1) := by decide +kernel
theorem d_Mo_rowsOf_13 : decode m_Mo_rowsOf.2.1 13 = .ok (.getfield 104, 3) := by decide +kernel
theorem d_Mo_rowsOf_16 : decode m_Mo_rowsOf.2.1 16 = .ok (.iload_n 3, 1) := by decide +kernel
theorem d_Mo_rowsOf_17 : decode m_Mo_rowsOf.2.1 17 = .ok (.iaload, 1) := by decide +kernel
theorem d_Mo_rowsOf_18 : decode m_Mo_rowsOf.2.1 18 = .ok (.iload_n 1, 1) := by decide +kernel
theorem d_Mo_rowsOf_19 : decode m_Mo_rowsOf.2.1 19 = .ok (.if_icmp .ne 24, 3) := by decide +kernel
theorem d_Mo_rowsOf_22 : decode m_Mo_rowsOf.2.1 22 = .ok (.aload_n 0, 1) := by decide +kernel
theorem d_Mo_rowsOf_23 : decode m_Mo_rowsOf.2.1 23 = .ok (.getfield 107, 3) := by decide +kernel
theorem d_Mo_rowsOf_26 : decode m_Mo_rowsOf.2.1 26 = .ok (.iload_n 3, 1) := by decide +kernel
theorem d_Mo_rowsOf_27 : decode m_Mo_rowsOf.2.1 27 = .ok (.iaload, 1) := by decide +kernel
theorem d_Mo_rowsOf_28 : decode m_Mo_rowsOf.2.1 28 = .ok (.iload_n 2, 1) := by decide +kernel
theorem d_Mo_rowsOf_29 : decode m_Mo_rowsOf.2.1 29 = .ok (.if_icmp .lt 14, 3) := by decide +kernel
theorem d_Mo_rowsOf_32 : decode m_Mo_rowsOf.2.1 32 = .ok (.aload_n 0, 1) := by decide +kernel
theorem d_Mo_rowsOf_33 : decode m_Mo_rowsOf.2.1 33 = .ok (.getfield 107, 3) := by decide +kernel
theorem d_Mo_rowsOf_36 : decode m_Mo_rowsOf.2.1 36 = .ok (.iload_n 3, 1) := by decide +kernel
theorem d_Mo_rowsOf_37 : decode m_Mo_rowsOf.2.1 37 = .ok (.iaload, 1) := by decide +kernel
theorem d_Mo_rowsOf_38 : decode m_Mo_rowsOf.2.1 38 = .ok (.iconst 1, 1) := by decide +kernel
theorem d_Mo_rowsOf_39 : decode m_Mo_rowsOf.2.1 39 = .ok (.iadd, 1) := by decide +kernel
theorem d_Mo_rowsOf_40 : decode m_Mo_rowsOf.2.1 40 = .ok (.goto 4, 3) := by decide +kernel
theorem d_Mo_rowsOf_43 : decode m_Mo_rowsOf.2.1 43 = .ok (.iload_n 2, 1) := by decide +kernel
theorem d_Mo_rowsOf_44 : decode m_Mo_rowsOf.2.1 44 = .ok (.istore_n 2, 1) := by decide +kernel
theorem d_Mo_rowsOf_45 : decode m_Mo_rowsOf.2.1 45 = .ok (.iinc 3 1, 3) := by decide +kernel
theorem d_Mo_rowsOf_48 : decode m_Mo_rowsOf.2.1 48 = .ok (.goto (-44), 3) := by decide +kernel
theorem d_Mo_rowsOf_51 : decode m_Mo_rowsOf.2.1 51 = .ok (.iload_n 2, 1) := by decide +kernel
theorem d_Mo_rowsOf_52 : decode m_Mo_rowsOf.2.1 52 = .ok (.ireturn, 1) := by decide +kernel
theorem d_Mo_fits_0 : decode m_Mo_fits.2.1 0 = .ok (.iconst 0, 1) := by decide +kernel
theorem d_Mo_fits_1 : decode m_Mo_fits.2.1 1 = .ok (.istore_n 2, 1) := by decide +kernel
theorem d_Mo_fits_2 : decode m_Mo_fits.2.1 2 = .ok (.iconst 0, 1) := by decide +kernel
theorem d_Mo_fits_3 : decode m_Mo_fits.2.1 3 = .ok (.istore_n 3, 1) := by decide +kernel
theorem d_Mo_fits_4 : decode m_Mo_fits.2.1 4 = .ok (.iload_n 3, 1) := by decide +kernel
theorem d_Mo_fits_5 : decode m_Mo_fits.2.1 5 = .ok (.aload_n 0, 1) := by decide +kernel
theorem d_Mo_fits_6 : decode m_Mo_fits.2.1 6 = .ok (.invokevirtual 180, 3) := by decide +kernel
theorem d_Mo_fits_9 : decode m_Mo_fits.2.1 9 = .ok (.if_icmp .ge 64, 3) := by decide +kernel
theorem d_Mo_fits_12 : decode m_Mo_fits.2.1 12 = .ok (.iload_n 2, 1) := by decide +kernel
theorem d_Mo_fits_13 : decode m_Mo_fits.2.1 13 = .ok (.aload_n 0, 1) := by decide +kernel
theorem d_Mo_fits_14 : decode m_Mo_fits.2.1 14 = .ok (.iload_n 3, 1) := by decide +kernel
theorem d_Mo_fits_15 : decode m_Mo_fits.2.1 15 = .ok (.invokevirtual 183, 3) := by decide +kernel
theorem d_Mo_fits_18 : decode m_Mo_fits.2.1 18 = .ok (.iadd, 1) := by decide +kernel
theorem d_Mo_fits_19 : decode m_Mo_fits.2.1 19 = .ok (.istore_n 2, 1) := by decide +kernel
theorem d_Mo_fits_20 : decode m_Mo_fits.2.1 20 = .ok (.iconst 0, 1) := by decide +kernel
theorem d_Mo_fits_21 : decode m_Mo_fits.2.1 21 = .ok (.istore 4, 2) := by decide +kernel
theorem d_Mo_fits_23 : decode m_Mo_fits.2.1 23 = .ok (.iconst 0, 1) := by decide +kernel
theorem d_Mo_fits_24 : decode m_Mo_fits.2.1 24 = .ok (.istore 5, 2) := by decide +kernel
theorem d_Mo_fits_26 : decode m_Mo_fits.2.1 26 = .ok (.iload 5, 2) := by decide +kernel
theorem d_Mo_fits_28 : decode m_Mo_fits.2.1 28 = .ok (.aload_n 0, 1) := by decide +kernel
theorem d_Mo_fits_29 : decode m_Mo_fits.2.1 29 = .ok (.iload_n 3, 1) := by decide +kernel
theorem d_Mo_fits_30 : decode m_Mo_fits.2.1 30 = .ok (.invokevirtual 186, 3) := by decide +kernel
theorem d_Mo_fits_33 : decode m_Mo_fits.2.1 33 = .ok (.if_icmp .ge 21, 3) := by decide +kernel
theorem d_Mo_fits_36 : decode m_Mo_fits.2.1 36 = .ok (.iload 4, 2) := by decide +kernel
theorem d_Mo_fits_38 : decode m_Mo_fits.2.1 38 = .ok (.aload_n 0, 1) := by decide +kernel
theorem d_Mo_fits_39 : decode m_Mo_fits.2.1 39 = .ok (.iload_n 3, 1) := by decide +kernel
theorem d_Mo_fits_40 : decode m_Mo_fits.2.1 40 = .ok (.iload 5, 2) := by decide +kernel
theorem d_Mo_fits_42 : decode m_Mo_fits.2.1 42 = .ok (.invokevirtual 189, 3) := by decide +kernel
theorem d_Mo_fits_45 : decode m_Mo_fits.2.1 45 = .ok (.iadd, 1) := by decide +kernel
theorem d_Mo_fits_46 : decode m_Mo_fits.2.1 46 = .ok (.istore 4, 2) := by decide +kernel
theorem d_Mo_fits_48 : decode m_Mo_fits.2.1 48 = .ok (.iinc 5 1, 3) := by decide +kernel
theorem d_Mo_fits_51 : decode m_Mo_fits.2.1 51 = .ok (.goto (-25), 3) := by decide +kernel
theorem d_Mo_fits_54 : decode m_Mo_fits.2.1 54 = .ok (.iload 4, 2) := by decide +kernel
theorem d_Mo_fits_56 : decode m_Mo_fits.2.1 56 = .ok (.aload_n 0, 1) := by decide +kernel
theorem d_Mo_fits_57 : decode m_Mo_fits.2.1 57 = .ok (.getfield 20, 3) := by decide +kernel
theorem d_Mo_fits_60 : decode m_Mo_fits.2.1 60 = .ok (.iload_n 1, 1) := by decide +kernel
theorem d_Mo_fits_61 : decode m_Mo_fits.2.1 61 = .ok (.iaload, 1) := by decide +kernel
theorem d_Mo_fits_62 : decode m_Mo_fits.2.1 62 = .ok (.if_icmp .le 5, 3) := by decide +kernel
theorem d_Mo_fits_65 : decode m_Mo_fits.2.1 65 = .ok (.iconst 0, 1) := by decide +kernel
theorem d_Mo_fits_66 : decode m_Mo_fits.2.1 66 = .ok (.ireturn, 1) := by decide +kernel
theorem d_Mo_fits_67 : decode m_Mo_fits.2.1 67 = .ok (.iinc 3 1, 3) := by decide +kernel
theorem d_Mo_fits_70 : decode m_Mo_fits.2.1 70 = .ok (.goto (-66), 3) := by decide +kernel
theorem d_Mo_fits_73 : decode m_Mo_fits.2.1 73 = .ok (.iload_n 2, 1) := by decide +kernel
theorem d_Mo_fits_74 : decode m_Mo_fits.2.1 74 = .ok (.aload_n 0, 1) := by decide +kernel
theorem d_Mo_fits_75 : decode m_Mo_fits.2.1 75 = .ok (.getfield 17, 3) := by decide +kernel
theorem d_Mo_fits_78 : decode m_Mo_fits.2.1 78 = .ok (.iload_n 1, 1) := by decide +kernel
theorem d_Mo_fits_79 : decode m_Mo_fits.2.1 79 = .ok (.iaload, 1) := by decide +kernel
theorem d_Mo_fits_80 : decode m_Mo_fits.2.1 80 = .ok (.if_icmp .gt 7, 3) := by decide +kernel
theorem d_Mo_fits_83 : decode m_Mo_fits.2.1 83 = .ok (.iconst 1, 1) := by decide +kernel
theorem d_Mo_fits_84 : decode m_Mo_fits.2.1 84 = .ok (.goto 4, 3) := by decide +kernel
theorem d_Mo_fits_87 : decode m_Mo_fits.2.1 87 = .ok (.iconst 0, 1) := by decide +kernel
theorem d_Mo_fits_88 : decode m_Mo_fits.2.1 88 = .ok (.ireturn, 1) := by decide +kernel
theorem d_Mo_score_0 : decode m_Mo_score.2.1 0 = .ok (.aload_n 0, 1) := by decide +kernel
theorem d_Mo_score_1 : decode m_Mo_score.2.1 1 = .ok (.iload_n 1, 1) := by decide +kernel
theorem d_Mo_score_2 : decode m_Mo_score.2.1 2 = .ok (.invokevirtual 166, 3) := by decide +kernel
theorem d_Mo_score_5 : decode m_Mo_score.2.1 5 = .ok (.istore_n 2, 1) := by decide +kernel
theorem d_Mo_score_6 : decode m_Mo_score.2.1 6 = .ok (.aload_n 0, 1) := by decide +kernel
theorem d_Mo_score_7 : decode m_Mo_score.2.1 7 = .ok (.iload_n 2, 1) := by decide +kernel
theorem d_Mo_score_8 : decode m_Mo_score.2.1 8 = .ok (.ifCond .ge 7, 3) := by decide +kernel
theorem d_Mo_score_11 : decode m_Mo_score.2.1 11 = .ok (.iconst 1, 1) := by decide +kernel
theorem d_Mo_score_12 : decode m_Mo_score.2.1 12 = .ok (.goto 17, 3) := by decide +kernel
theorem d_Mo_score_15 : decode m_Mo_score.2.1 15 = .ok (.aload_n 0, 1) := by decide +kernel
theorem d_Mo_score_16 : decode m_Mo_score.2.1 16 = .ok (.getfield 23, 3) := by decide +kernel
theorem d_Mo_score_19 : decode m_Mo_score.2.1 19 = .ok (.iload_n 2, 1) := by decide +kernel
theorem d_Mo_score_20 : decode m_Mo_score.2.1 20 = .ok (.baload, 1) := by decide +kernel
theorem d_Mo_score_21 : decode m_Mo_score.2.1 21 = .ok (.ifCond .eq 7, 3) := by decide +kernel
theorem d_Mo_score_24 : decode m_Mo_score.2.1 24 = .ok (.iconst 0, 1) := by decide +kernel
theorem d_Mo_score_25 : decode m_Mo_score.2.1 25 = .ok (.goto 4, 3) := by decide +kernel
theorem d_Mo_score_28 : decode m_Mo_score.2.1 28 = .ok (.iconst 2, 1) := by decide +kernel
theorem d_Mo_score_29 : decode m_Mo_score.2.1 29 = .ok (.putfield 140, 3) := by decide +kernel
theorem d_Mo_score_32 : decode m_Mo_score.2.1 32 = .ok (.aload_n 0, 1) := by decide +kernel
theorem d_Mo_score_33 : decode m_Mo_score.2.1 33 = .ok (.getfield 140, 3) := by decide +kernel
theorem d_Mo_score_36 : decode m_Mo_score.2.1 36 = .ok (.ifCond .le 5, 3) := by decide +kernel
theorem d_Mo_score_39 : decode m_Mo_score.2.1 39 = .ok (.iconst 0, 1) := by decide +kernel
theorem d_Mo_score_40 : decode m_Mo_score.2.1 40 = .ok (.ireturn, 1) := by decide +kernel
theorem d_Mo_score_41 : decode m_Mo_score.2.1 41 = .ok (.iconst 0, 1) := by decide +kernel
theorem d_Mo_score_42 : decode m_Mo_score.2.1 42 = .ok (.istore_n 3, 1) := by decide +kernel
theorem d_Mo_score_43 : decode m_Mo_score.2.1 43 = .ok (.aload_n 0, 1) := by decide +kernel
theorem d_Mo_score_44 : decode m_Mo_score.2.1 44 = .ok (.getfield 62, 3) := by decide +kernel
theorem d_Mo_score_47 : decode m_Mo_score.2.1 47 = .ok (.sipush 160, 3) := by decide +kernel
theorem d_Mo_score_50 : decode m_Mo_score.2.1 50 = .ok (.iload_n 2, 1) := by decide +kernel
theorem d_Mo_score_51 : decode m_Mo_score.2.1 51 = .ok (.imul, 1) := by decide +kernel
theorem d_Mo_score_52 : decode m_Mo_score.2.1 52 = .ok (.iload_n 3, 1) := by decide +kernel
theorem d_Mo_score_53 : decode m_Mo_score.2.1 53 = .ok (.iadd, 1) := by decide +kernel
theorem d_Mo_score_54 : decode m_Mo_score.2.1 54 = .ok (.iaload, 1) := by decide +kernel
theorem d_Mo_score_55 : decode m_Mo_score.2.1 55 = .ok (.iconst 1, 1) := by decide +kernel
theorem d_Mo_score_56 : decode m_Mo_score.2.1 56 = .ok (.if_icmp .eq 9, 3) := by decide +kernel
theorem d_Mo_score_59 : decode m_Mo_score.2.1 59 = .ok (.iinc 3 1, 3) := by decide +kernel
theorem d_Mo_score_62 : decode m_Mo_score.2.1 62 = .ok (.goto (-19), 3) := by decide +kernel
theorem d_Mo_score_65 : decode m_Mo_score.2.1 65 = .ok (.sipush 160, 3) := by decide +kernel
theorem d_Mo_score_68 : decode m_Mo_score.2.1 68 = .ok (.iload_n 2, 1) := by decide +kernel
theorem d_Mo_score_69 : decode m_Mo_score.2.1 69 = .ok (.imul, 1) := by decide +kernel
theorem d_Mo_score_70 : decode m_Mo_score.2.1 70 = .ok (.iload_n 3, 1) := by decide +kernel
theorem d_Mo_score_71 : decode m_Mo_score.2.1 71 = .ok (.iadd, 1) := by decide +kernel
theorem d_Mo_score_72 : decode m_Mo_score.2.1 72 = .ok (.istore 4, 2) := by decide +kernel
theorem d_Mo_score_74 : decode m_Mo_score.2.1 74 = .ok (.aload_n 0, 1) := by decide +kernel
theorem d_Mo_score_75 : decode m_Mo_score.2.1 75 = .ok (.getfield 26, 3) := by decide +kernel
theorem d_Mo_score_78 : decode m_Mo_score.2.1 78 = .ok (.iload_n 2, 1) := by decide +kernel
theorem d_Mo_score_79 : decode m_Mo_score.2.1 79 = .ok (.iconst 1, 1) := by decide +kernel
theorem d_Mo_score_80 : decode m_Mo_score.2.1 80 = .ok (.bastore, 1) := by decide +kernel
theorem d_Mo_score_81 : decode m_Mo_score.2.1 81 = .ok (.aload_n 0, 1) := by decide +kernel
theorem d_Mo_score_82 : decode m_Mo_score.2.1 82 = .ok (.getfield 38, 3) := by decide +kernel
theorem d_Mo_score_85 : decode m_Mo_score.2.1 85 = .ok (.iload 4, 2) := by decide +kernel
theorem d_Mo_score_87 : decode m_Mo_score.2.1 87 = .ok (.iaload, 1) := by decide +kernel
theorem d_Mo_score_88 : decode m_Mo_score.2.1 88 = .ok (.iconst 2, 1) := by decide +kernel
theorem d_Mo_score_89 : decode m_Mo_score.2.1 89 = .ok (.if_icmp .ne 13, 3) := by decide +kernel
theorem d_Mo_score_92 : decode m_Mo_score.2.1 92 = .ok (.aload_n 0, 1) := by decide +kernel
theorem d_Mo_score_93 : decode m_Mo_score.2.1 93 = .ok (.iload_n 2, 1) := by decide +kernel
theorem d_Mo_score_94 : decode m_Mo_score.2.1 94 = .ok (.iload 4, 2) := by decide +kernel
theorem d_Mo_score_96 : decode m_Mo_score.2.1 96 = .ok (.invokevirtual 276, 3) := by decide +kernel
theorem d_Mo_score_99 : decode m_Mo_score.2.1 99 = .ok (.goto 47, 3) := by decide +kernel
theorem d_Mo_score_102 : decode m_Mo_score.2.1 102 = .ok (.aload_n 0, 1) := by decide +kernel
theorem d_Mo_score_103 : decode m_Mo_score.2.1 103 = .ok (.getfield 62, 3) := by decide +kernel
theorem d_Mo_score_106 : decode m_Mo_score.2.1 106 = .ok (.iload 4, 2) := by decide +kernel
theorem d_Mo_score_108 : decode m_Mo_score.2.1 108 = .ok (.iconst 2, 1) := by decide +kernel
theorem d_Mo_score_109 : decode m_Mo_score.2.1 109 = .ok (.iastore, 1) := by decide +kernel
theorem d_Mo_score_110 : decode m_Mo_score.2.1 110 = .ok (.aload_n 0, 1) := by decide +kernel
theorem d_Mo_score_111 : decode m_Mo_score.2.1 111 = .ok (.iload_n 2, 1) := by decide +kernel
theorem d_Mo_score_112 : decode m_Mo_score.2.1 112 = .ok (.sipush 160, 3) := by decide +kernel
theorem d_Mo_score_115 : decode m_Mo_score.2.1 115 = .ok (.iload_n 2, 1) := by decide +kernel
theorem d_Mo_score_116 : decode m_Mo_score.2.1 116 = .ok (.imul, 1) := by decide +kernel
theorem d_Mo_score_117 : decode m_Mo_score.2.1 117 = .ok (.aload_n 0, 1) := by decide +kernel
theorem d_Mo_score_118 : decode m_Mo_score.2.1 118 = .ok (.getfield 56, 3) := by decide +kernel
theorem d_Mo_score_121 : decode m_Mo_score.2.1 121 = .ok (.iload 4, 2) := by decide +kernel
theorem d_Mo_score_123 : decode m_Mo_score.2.1 123 = .ok (.iaload, 1) := by decide +kernel
theorem d_Mo_score_124 : decode m_Mo_score.2.1 124 = .ok (.iadd, 1) := by decide +kernel
theorem d_Mo_score_125 : decode m_Mo_score.2.1 125 = .ok (.invokevirtual 276, 3) := by decide +kernel
theorem d_Mo_score_128 : decode m_Mo_score.2.1 128 = .ok (.aload_n 0, 1) := by decide +kernel
theorem d_Mo_score_129 : decode m_Mo_score.2.1 129 = .ok (.iload_n 2, 1) := by decide +kernel
theorem d_Mo_score_130 : decode m_Mo_score.2.1 130 = .ok (.sipush 160, 3) := by decide +kernel
theorem d_Mo_score_133 : decode m_Mo_score.2.1 133 = .ok (.iload_n 2, 1) := by decide +kernel
theorem d_Mo_score_134 : decode m_Mo_score.2.1 134 = .ok (.imul, 1) := by decide +kernel
theorem d_Mo_score_135 : decode m_Mo_score.2.1 135 = .ok (.aload_n 0, 1) := by decide +kernel
theorem d_Mo_score_136 : decode m_Mo_score.2.1 136 = .ok (.getfield 59, 3) := by decide +kernel
theorem d_Mo_score_139 : decode m_Mo_score.2.1 139 = .ok (.iload 4, 2) := by decide +kernel
theorem d_Mo_score_141 : decode m_Mo_score.2.1 141 = .ok (.iaload, 1) := by decide +kernel
theorem d_Mo_score_142 : decode m_Mo_score.2.1 142 = .ok (.iadd, 1) := by decide +kernel
theorem d_Mo_score_143 : decode m_Mo_score.2.1 143 = .ok (.invokevirtual 276, 3) := by decide +kernel
theorem d_Mo_score_146 : decode m_Mo_score.2.1 146 = .ok (.aload_n 0, 1) := by decide +kernel
theorem d_Mo_score_147 : decode m_Mo_score.2.1 147 = .ok (.iload_n 2, 1) := by decide +kernel
theorem d_Mo_score_148 : decode m_Mo_score.2.1 148 = .ok (.invokevirtual 279, 3) := by decide +kernel
theorem d_Mo_score_151 : decode m_Mo_score.2.1 151 = .ok (.iload_n 3, 1) := by decide +kernel
theorem d_Mo_score_152 : decode m_Mo_score.2.1 152 = .ok (.ireturn, 1) := by decide +kernel
theorem d_Mo_arrive_0 : decode m_Mo_arrive.2.1 0 = .ok (.aload_n 0, 1) := by decide +kernel
theorem d_Mo_arrive_1 : decode m_Mo_arrive.2.1 1 = .ok (.getfield 47, 3) := by decide +kernel
theorem d_Mo_arrive_4 : decode m_Mo_arrive.2.1 4 = .ok (.iload_n 2, 1) := by decide +kernel
theorem d_Mo_arrive_5 : decode m_Mo_arrive.2.1 5 = .ok (.iaload, 1) := by decide +kernel
theorem d_Mo_arrive_6 : decode m_Mo_arrive.2.1 6 = .ok (.i2l, 1) := by decide +kernel
theorem d_Mo_arrive_7 : decode m_Mo_arrive.2.1 7 = .ok (.aload_n 0, 1) := by decide +kernel
theorem d_Mo_arrive_8 : decode m_Mo_arrive.2.1 8 = .ok (.getfield 50, 3) := by decide +kernel
theorem d_Mo_arrive_11 : decode m_Mo_arrive.2.1 11 = .ok (.iload_n 2, 1) := by decide +kernel
theorem d_Mo_arrive_12 : decode m_Mo_arrive.2.1 12 = .ok (.iaload, 1) := by decide +kernel
theorem d_Mo_arrive_13 : decode m_Mo_arrive.2.1 13 = .ok (.i2l, 1) := by decide +kernel
theorem d_Mo_arrive_14 : decode m_Mo_arrive.2.1 14 = .ok (.lmul, 1) := by decide +kernel
theorem d_Mo_arrive_15 : decode m_Mo_arrive.2.1 15 = .ok (.lstore_n 3, 1) := by decide +kernel
theorem d_Mo_arrive_16 : decode m_Mo_arrive.2.1 16 = .ok (.aload_n 0, 1) := by decide +kernel
theorem d_Mo_arrive_17 : decode m_Mo_arrive.2.1 17 = .ok (.getfield 62, 3) := by decide +kernel
theorem d_Mo_arrive_20 : decode m_Mo_arrive.2.1 20 = .ok (.iload_n 2, 1) := by decide +kernel
theorem d_Mo_arrive_21 : decode m_Mo_arrive.2.1 21 = .ok (.aload_n 0, 1) := by decide +kernel
theorem d_Mo_arrive_22 : decode m_Mo_arrive.2.1 22 = .ok (.getfield 38, 3) := by decide +kernel
theorem d_Mo_arrive_25 : decode m_Mo_arrive.2.1 25 = .ok (.iload_n 2, 1) := by decide +kernel
theorem d_Mo_arrive_26 : decode m_Mo_arrive.2.1 26 = .ok (.iaload, 1) := by decide +kernel
theorem d_Mo_arrive_27 : decode m_Mo_arrive.2.1 27 = .ok (.iconst 2, 1) := by decide +kernel
theorem d_Mo_arrive_28 : decode m_Mo_arrive.2.1 28 = .ok (.if_icmp .ge 7, 3) := by decide +kernel
theorem d_Mo_arrive_31 : decode m_Mo_arrive.2.1 31 = .ok (.iconst 1, 1) := by decide +kernel
theorem d_Mo_arrive_32 : decode m_Mo_arrive.2.1 32 = .ok (.goto 4, 3) := by decide +kernel
theorem d_Mo_arrive_35 : decode m_Mo_arrive.2.1 35 = .ok (.iconst 2, 1) := by decide +kernel
theorem d_Mo_arrive_36 : decode m_Mo_arrive.2.1 36 = .ok (.iastore, 1) := by decide +kernel
theorem d_Mo_arrive_37 : decode m_Mo_arrive.2.1 37 = .ok (.aload_n 0, 1) := by decide +kernel
theorem d_Mo_arrive_38 : decode m_Mo_arrive.2.1 38 = .ok (.getfield 38, 3) := by decide +kernel
theorem d_Mo_arrive_41 : decode m_Mo_arrive.2.1 41 = .ok (.iload_n 2, 1) := by decide +kernel
theorem d_Mo_arrive_42 : decode m_Mo_arrive.2.1 42 = .ok (.iaload, 1) := by decide +kernel
theorem d_Mo_arrive_43 : decode m_Mo_arrive.2.1 43 = .ok (.iconst 2, 1) := by decide +kernel
theorem d_Mo_arrive_44 : decode m_Mo_arrive.2.1 44 = .ok (.if_icmp .ne 46, 3) := by decide +kernel
theorem d_Mo_arrive_47 : decode m_Mo_arrive.2.1 47 = .ok (.aload_n 0, 1) := by decide +kernel
theorem d_Mo_arrive_48 : decode m_Mo_arrive.2.1 48 = .ok (.getfield 77, 3) := by decide +kernel
theorem d_Mo_arrive_51 : decode m_Mo_arrive.2.1 51 = .ok (.aload_n 0, 1) := by decide +kernel
theorem d_Mo_arrive_52 : decode m_Mo_arrive.2.1 52 = .ok (.getfield 53, 3) := by decide +kernel
theorem d_Mo_arrive_55 : decode m_Mo_arrive.2.1 55 = .ok (.iload_n 2, 1) := by decide +kernel
theorem d_Mo_arrive_56 : decode m_Mo_arrive.2.1 56 = .ok (.iaload, 1) := by decide +kernel
theorem d_Mo_arrive_57 : decode m_Mo_arrive.2.1 57 = .ok (.dup2, 1) := by decide +kernel
theorem d_Mo_arrive_58 : decode m_Mo_arrive.2.1 58 = .ok (.iaload, 1) := by decide +kernel
theorem d_Mo_arrive_59 : decode m_Mo_arrive.2.1 59 = .ok (.iconst 1, 1) := by decide +kernel
theorem d_Mo_arrive_60 : decode m_Mo_arrive.2.1 60 = .ok (.isub, 1) := by decide +kernel
theorem d_Mo_arrive_61 : decode m_Mo_arrive.2.1 61 = .ok (.iastore, 1) := by decide +kernel
theorem d_Mo_arrive_62 : decode m_Mo_arrive.2.1 62 = .ok (.aload_n 0, 1) := by decide +kernel
theorem d_Mo_arrive_63 : decode m_Mo_arrive.2.1 63 = .ok (.getfield 80, 3) := by decide +kernel
theorem d_Mo_arrive_66 : decode m_Mo_arrive.2.1 66 = .ok (.aload_n 0, 1) := by decide +kernel
theorem d_Mo_arrive_67 : decode m_Mo_arrive.2.1 67 = .ok (.getfield 53, 3) := by decide +kernel
theorem d_Mo_arrive_70 : decode m_Mo_arrive.2.1 70 = .ok (.iload_n 2, 1) := by decide +kernel
theorem d_Mo_arrive_71 : decode m_Mo_arrive.2.1 71 = .ok (.iaload, 1) := by decide +kernel
theorem d_Mo_arrive_72 : decode m_Mo_arrive.2.1 72 = .ok (.dup2, 1) := by decide +kernel
theorem d_Mo_arrive_73 : decode m_Mo_arrive.2.1 73 = .ok (.iaload, 1) := by decide +kernel
theorem d_Mo_arrive_74 : decode m_Mo_arrive.2.1 74 = .ok (.iconst 1, 1) := by decide +kernel
theorem d_Mo_arrive_75 : decode m_Mo_arrive.2.1 75 = .ok (.iadd, 1) := by decide +kernel
theorem d_Mo_arrive_76 : decode m_Mo_arrive.2.1 76 = .ok (.iastore, 1) := by decide +kernel
theorem d_Mo_arrive_77 : decode m_Mo_arrive.2.1 77 = .ok (.aload_n 0, 1) := by decide +kernel
theorem d_Mo_arrive_78 : decode m_Mo_arrive.2.1 78 = .ok (.dup, 1) := by decide +kernel
theorem d_Mo_arrive_79 : decode m_Mo_arrive.2.1 79 = .ok (.getfield 266, 3) := by decide +kernel
theorem d_Mo_arrive_82 : decode m_Mo_arrive.2.1 82 = .ok (.lload_n 3, 1) := by decide +kernel
theorem d_Mo_arrive_83 : decode m_Mo_arrive.2.1 83 = .ok (.ladd, 1) := by decide +kernel
theorem d_Mo_arrive_84 : decode m_Mo_arrive.2.1 84 = .ok (.putfield 266, 3) := by decide +kernel
theorem d_Mo_arrive_87 : decode m_Mo_arrive.2.1 87 = .ok (.goto 75, 3) := by decide +kernel
theorem d_Mo_arrive_90 : decode m_Mo_arrive.2.1 90 = .ok (.aload_n 0, 1) := by decide +kernel
theorem d_Mo_arrive_91 : decode m_Mo_arrive.2.1 91 = .ok (.getfield 38, 3) := by decide +kernel
theorem d_Mo_arrive_94 : decode m_Mo_arrive.2.1 94 = .ok (.iload_n 2, 1) := by decide +kernel
theorem d_Mo_arrive_95 : decode m_Mo_arrive.2.1 95 = .ok (.iaload, 1) := by decide +kernel
theorem d_Mo_arrive_96 : decode m_Mo_arrive.2.1 96 = .ok (.iconst 3, 1) := by decide +kernel
theorem d_Mo_arrive_97 : decode m_Mo_arrive.2.1 97 = .ok (.if_icmp .ne 45, 3) := by decide +kernel
theorem d_Mo_arrive_100 : decode m_Mo_arrive.2.1 100 = .ok (.aload_n 0, 1) := by decide +kernel
theorem d_Mo_arrive_101 : decode m_Mo_arrive.2.1 101 = .ok (.getfield 47, 3) := by decide +kernel
theorem d_Mo_arrive_104 : decode m_Mo_arrive.2.1 104 = .ok (.iload_n 2, 1) := by decide +kernel
theorem d_Mo_arrive_105 : decode m_Mo_arrive.2.1 105 = .ok (.iaload, 1) := by decide +kernel
theorem d_Mo_arrive_106 : decode m_Mo_arrive.2.1 106 = .ok (.sipush 300, 3) := by decide +kernel
theorem d_Mo_arrive_109 : decode m_Mo_arrive.2.1 109 = .ok (.if_icmp .lt 33, 3) := by decide +kernel
theorem d_Mo_arrive_112 : decode m_Mo_arrive.2.1 112 = .ok (.aload_n 0, 1) := by decide +kernel
theorem d_Mo_arrive_113 : decode m_Mo_arrive.2.1 113 = .ok (.getfield 50, 3) := by decide +kernel
theorem d_Mo_arrive_116 : decode m_Mo_arrive.2.1 116 = .ok (.iload_n 2, 1) := by decide +kernel
theorem d_Mo_arrive_117 : decode m_Mo_arrive.2.1 117 = .ok (.iaload, 1) := by decide +kernel
theorem d_Mo_arrive_118 : decode m_Mo_arrive.2.1 118 = .ok (.sipush 300, 3) := by decide +kernel
theorem d_Mo_arrive_121 : decode m_Mo_arrive.2.1 121 = .ok (.if_icmp .lt 21, 3) := by decide +kernel
theorem d_Mo_arrive_124 : decode m_Mo_arrive.2.1 124 = .ok (.aload_n 0, 1) := by decide +kernel
theorem d_Mo_arrive_125 : decode m_Mo_arrive.2.1 125 = .ok (.getfield 263, 3) := by decide +kernel
theorem d_Mo_arrive_128 : decode m_Mo_arrive.2.1 128 = .ok (.bipush 10, 2) := by decide +kernel
theorem d_Mo_arrive_130 : decode m_Mo_arrive.2.1 130 = .ok (.if_icmp .ge 12, 3) := by decide +kernel
theorem d_Mo_arrive_133 : decode m_Mo_arrive.2.1 133 = .ok (.aload_n 0, 1) := by decide +kernel
theorem d_Mo_arrive_134 : decode m_Mo_arrive.2.1 134 = .ok (.iload_n 1, 1) := by decide +kernel
theorem d_Mo_arrive_135 : decode m_Mo_arrive.2.1 135 = .ok (.iload_n 2, 1) := by decide +kernel
theorem d_Mo_arrive_136 : decode m_Mo_arrive.2.1 136 = .ok (.invokevirtual 269, 3) := by decide +kernel
theorem d_Mo_arrive_139 : decode m_Mo_arrive.2.1 139 = .ok (.goto 23, 3) := by decide +kernel
theorem d_Mo_arrive_142 : decode m_Mo_arrive.2.1 142 = .ok (.aload_n 0, 1) := by decide +kernel
theorem d_Mo_arrive_143 : decode m_Mo_arrive.2.1 143 = .ok (.getfield 38, 3) := by decide +kernel
theorem d_Mo_arrive_146 : decode m_Mo_arrive.2.1 146 = .ok (.iload_n 2, 1) := by decide +kernel
theorem d_Mo_arrive_147 : decode m_Mo_arrive.2.1 147 = .ok (.iaload, 1) := by decide +kernel
theorem d_Mo_arrive_148 : decode m_Mo_arrive.2.1 148 = .ok (.iconst 3, 1) := by decide +kernel
theorem d_Mo_arrive_149 : decode m_Mo_arrive.2.1 149 = .ok (.if_icmp .ne 13, 3) := by decide +kernel
theorem d_Mo_arrive_152 : decode m_Mo_arrive.2.1 152 = .ok (.aload_n 0, 1) := by decide +kernel
theorem d_Mo_arrive_153 : decode m_Mo_arrive.2.1 153 = .ok (.dup, 1) := by decide +kernel
theorem d_Mo_arrive_154 : decode m_Mo_arrive.2.1 154 = .ok (.getfield 273, 3) := by decide +kernel
theorem d_Mo_arrive_157 : decode m_Mo_arrive.2.1 157 = .ok (.lload_n 3, 1) := by decide +kernel
theorem d_Mo_arrive_158 : decode m_Mo_arrive.2.1 158 = .ok (.ladd, 1) := by decide +kernel
theorem d_Mo_arrive_159 : decode m_Mo_arrive.2.1 159 = .ok (.putfield 273, 3) := by decide +kernel
theorem d_Mo_arrive_162 : decode m_Mo_arrive.2.1 162 = .ok (.return_, 1) := by decide +kernel
theorem d_Mo_store_0 : decode m_Mo_store.2.1 0 = .ok (.aload_n 0, 1) := by decide +kernel
theorem d_Mo_store_1 : decode m_Mo_store.2.1 1 = .ok (.getfield 263, 3) := by decide +kernel
theorem d_Mo_store_4 : decode m_Mo_store.2.1 4 = .ok (.istore_n 3, 1) := by decide +kernel
theorem d_Mo_store_5 : decode m_Mo_store.2.1 5 = .ok (.aload_n 0, 1) := by decide +kernel
theorem d_Mo_store_6 : decode m_Mo_store.2.1 6 = .ok (.getfield 83, 3) := by decide +kernel
theorem d_Mo_store_9 : decode m_Mo_store.2.1 9 = .ok (.iload_n 3, 1) := by decide +kernel
theorem d_Mo_store_10 : decode m_Mo_store.2.1 10 = .ok (.aload_n 0, 1) := by decide +kernel
theorem d_Mo_store_11 : decode m_Mo_store.2.1 11 = .ok (.getfield 47, 3) := by decide +kernel
theorem d_Mo_store_14 : decode m_Mo_store.2.1 14 = .ok (.iload_n 2, 1) := by decide +kernel
theorem d_Mo_store_15 : decode m_Mo_store.2.1 15 = .ok (.iaload, 1) := by decide +kernel
theorem d_Mo_store_16 : decode m_Mo_store.2.1 16 = .ok (.iastore, 1) := by decide +kernel
theorem d_Mo_store_17 : decode m_Mo_store.2.1 17 = .ok (.aload_n 0, 1) := by decide +kernel
theorem d_Mo_store_18 : decode m_Mo_store.2.1 18 = .ok (.getfield 86, 3) := by decide +kernel
theorem d_Mo_store_21 : decode m_Mo_store.2.1 21 = .ok (.iload_n 3, 1) := by decide +kernel
theorem d_Mo_store_22 : decode m_Mo_store.2.1 22 = .ok (.aload_n 0, 1) := by decide +kernel
theorem d_Mo_store_23 : decode m_Mo_store.2.1 23 = .ok (.getfield 50, 3) := by decide +kernel
end
section
theorem d_Mo_store_26 : decode m_Mo_store.2.1 26 = .ok (.iload_n 2, 1) := by decide +kernel
theorem d_Mo_store_27 : decode m_Mo_store.2.1 27 = .ok (.iaload, 1) := by decide +kernel
theorem d_Mo_store_28 : decode m_Mo_store.2.1 28 = .ok (.iastore, 1) := by decide +kernel
theorem d_Mo_store_29 : decode m_Mo_store.2.1 29 = .ok (.aload_n 0, 1) := by decide +kernel
theorem d_Mo_store_30 : decode m_Mo_store.2.1 30 = .ok (.getfield 89, 3) := by decide +kernel
theorem d_Mo_store_33 : decode m_Mo_store.2.1 33 = .ok (.iload_n 3, 1) := by decide +kernel
theorem d_Mo_store_34 : decode m_Mo_store.2.1 34 = .ok (.iconst 0, 1) := by decide +kernel
theorem d_Mo_store_35 : decode m_Mo_store.2.1 35 = .ok (.iastore, 1) := by decide +kernel
theorem d_Mo_store_36 : decode m_Mo_store.2.1 36 = .ok (.iconst 0, 1) := by decide +kernel
theorem d_Mo_store_37 : decode m_Mo_store.2.1 37 = .ok (.istore 4, 2) := by decide +kernel
theorem d_Mo_store_39 : decode m_Mo_store.2.1 39 = .ok (.iload 4, 2) := by decide +kernel
theorem d_Mo_store_41 : decode m_Mo_store.2.1 41 = .ok (.aload_n 0, 1) := by decide +kernel
theorem d_Mo_store_42 : decode m_Mo_store.2.1 42 = .ok (.getfield 29, 3) := by decide +kernel
theorem d_Mo_store_45 : decode m_Mo_store.2.1 45 = .ok (.iload_n 1, 1) := by decide +kernel
theorem d_Mo_store_46 : decode m_Mo_store.2.1 46 = .ok (.iaload, 1) := by decide +kernel
theorem d_Mo_store_47 : decode m_Mo_store.2.1 47 = .ok (.if_icmp .ge 329, 3) := by decide +kernel
theorem d_Mo_store_50 : decode m_Mo_store.2.1 50 = .ok (.aload_n 0, 1) := by decide +kernel
theorem d_Mo_store_51 : decode m_Mo_store.2.1 51 = .ok (.iload_n 1, 1) := by decide +kernel
theorem d_Mo_store_52 : decode m_Mo_store.2.1 52 = .ok (.iload 4, 2) := by decide +kernel
theorem d_Mo_store_54 : decode m_Mo_store.2.1 54 = .ok (.aload_n 0, 1) := by decide +kernel
theorem d_Mo_store_55 : decode m_Mo_store.2.1 55 = .ok (.getfield 41, 3) := by decide +kernel
theorem d_Mo_store_58 : decode m_Mo_store.2.1 58 = .ok (.iload_n 2, 1) := by decide +kernel
theorem d_Mo_store_59 : decode m_Mo_store.2.1 59 = .ok (.iaload, 1) := by decide +kernel
theorem d_Mo_store_60 : decode m_Mo_store.2.1 60 = .ok (.aload_n 0, 1) := by decide +kernel
theorem d_Mo_store_61 : decode m_Mo_store.2.1 61 = .ok (.getfield 44, 3) := by decide +kernel
theorem d_Mo_store_64 : decode m_Mo_store.2.1 64 = .ok (.iload_n 2, 1) := by decide +kernel
theorem d_Mo_store_65 : decode m_Mo_store.2.1 65 = .ok (.iaload, 1) := by decide +kernel
theorem d_Mo_store_66 : decode m_Mo_store.2.1 66 = .ok (.aload_n 0, 1) := by decide +kernel
theorem d_Mo_store_67 : decode m_Mo_store.2.1 67 = .ok (.getfield 47, 3) := by decide +kernel
theorem d_Mo_store_70 : decode m_Mo_store.2.1 70 = .ok (.iload_n 2, 1) := by decide +kernel
theorem d_Mo_store_71 : decode m_Mo_store.2.1 71 = .ok (.iaload, 1) := by decide +kernel
theorem d_Mo_store_72 : decode m_Mo_store.2.1 72 = .ok (.aload_n 0, 1) := by decide +kernel
theorem d_Mo_store_73 : decode m_Mo_store.2.1 73 = .ok (.getfield 50, 3) := by decide +kernel
theorem d_Mo_store_76 : decode m_Mo_store.2.1 76 = .ok (.iload_n 2, 1) := by decide +kernel
theorem d_Mo_store_77 : decode m_Mo_store.2.1 77 = .ok (.iaload, 1) := by decide +kernel
theorem d_Mo_store_78 : decode m_Mo_store.2.1 78 = .ok (.invokevirtual 196, 3) := by decide +kernel
theorem d_Mo_store_81 : decode m_Mo_store.2.1 81 = .ok (.ifCond .eq 289, 3) := by decide +kernel
theorem d_Mo_store_84 : decode m_Mo_store.2.1 84 = .ok (.bipush 24, 2) := by decide +kernel
theorem d_Mo_store_86 : decode m_Mo_store.2.1 86 = .ok (.iload_n 1, 1) := by decide +kernel
theorem d_Mo_store_87 : decode m_Mo_store.2.1 87 = .ok (.imul, 1) := by decide +kernel
theorem d_Mo_store_88 : decode m_Mo_store.2.1 88 = .ok (.iconst 4, 1) := by decide +kernel
theorem d_Mo_store_89 : decode m_Mo_store.2.1 89 = .ok (.iload 4, 2) := by decide +kernel
theorem d_Mo_store_91 : decode m_Mo_store.2.1 91 = .ok (.imul, 1) := by decide +kernel
theorem d_Mo_store_92 : decode m_Mo_store.2.1 92 = .ok (.iadd, 1) := by decide +kernel
theorem d_Mo_store_93 : decode m_Mo_store.2.1 93 = .ok (.istore 5, 2) := by decide +kernel
theorem d_Mo_store_95 : decode m_Mo_store.2.1 95 = .ok (.bipush 24, 2) := by decide +kernel
theorem d_Mo_store_97 : decode m_Mo_store.2.1 97 = .ok (.iload_n 3, 1) := by decide +kernel
theorem d_Mo_store_98 : decode m_Mo_store.2.1 98 = .ok (.imul, 1) := by decide +kernel
theorem d_Mo_store_99 : decode m_Mo_store.2.1 99 = .ok (.iconst 4, 1) := by decide +kernel
theorem d_Mo_store_100 : decode m_Mo_store.2.1 100 = .ok (.aload_n 0, 1) := by decide +kernel
theorem d_Mo_store_101 : decode m_Mo_store.2.1 101 = .ok (.getfield 89, 3) := by decide +kernel
theorem d_Mo_store_104 : decode m_Mo_store.2.1 104 = .ok (.iload_n 3, 1) := by decide +kernel
theorem d_Mo_store_105 : decode m_Mo_store.2.1 105 = .ok (.iaload, 1) := by decide +kernel
theorem d_Mo_store_106 : decode m_Mo_store.2.1 106 = .ok (.imul, 1) := by decide +kernel
theorem d_Mo_store_107 : decode m_Mo_store.2.1 107 = .ok (.iadd, 1) := by decide +kernel
theorem d_Mo_store_108 : decode m_Mo_store.2.1 108 = .ok (.istore 6, 2) := by decide +kernel
theorem d_Mo_store_110 : decode m_Mo_store.2.1 110 = .ok (.aload_n 0, 1) := by decide +kernel
theorem d_Mo_store_111 : decode m_Mo_store.2.1 111 = .ok (.getfield 32, 3) := by decide +kernel
theorem d_Mo_store_114 : decode m_Mo_store.2.1 114 = .ok (.iload 5, 2) := by decide +kernel
theorem d_Mo_store_116 : decode m_Mo_store.2.1 116 = .ok (.iaload, 1) := by decide +kernel
theorem d_Mo_store_117 : decode m_Mo_store.2.1 117 = .ok (.aload_n 0, 1) := by decide +kernel
theorem d_Mo_store_118 : decode m_Mo_store.2.1 118 = .ok (.getfield 41, 3) := by decide +kernel
theorem d_Mo_store_121 : decode m_Mo_store.2.1 121 = .ok (.iload_n 2, 1) := by decide +kernel
theorem d_Mo_store_122 : decode m_Mo_store.2.1 122 = .ok (.iaload, 1) := by decide +kernel
theorem d_Mo_store_123 : decode m_Mo_store.2.1 123 = .ok (.if_icmp .le 13, 3) := by decide +kernel
theorem d_Mo_store_126 : decode m_Mo_store.2.1 126 = .ok (.aload_n 0, 1) := by decide +kernel
theorem d_Mo_store_127 : decode m_Mo_store.2.1 127 = .ok (.getfield 32, 3) := by decide +kernel
theorem d_Mo_store_130 : decode m_Mo_store.2.1 130 = .ok (.iload 5, 2) := by decide +kernel
theorem d_Mo_store_132 : decode m_Mo_store.2.1 132 = .ok (.iaload, 1) := by decide +kernel
theorem d_Mo_store_133 : decode m_Mo_store.2.1 133 = .ok (.goto 9, 3) := by decide +kernel
theorem d_Mo_store_136 : decode m_Mo_store.2.1 136 = .ok (.aload_n 0, 1) := by decide +kernel
theorem d_Mo_store_137 : decode m_Mo_store.2.1 137 = .ok (.getfield 41, 3) := by decide +kernel
theorem d_Mo_store_140 : decode m_Mo_store.2.1 140 = .ok (.iload_n 2, 1) := by decide +kernel
theorem d_Mo_store_141 : decode m_Mo_store.2.1 141 = .ok (.iaload, 1) := by decide +kernel
theorem d_Mo_store_142 : decode m_Mo_store.2.1 142 = .ok (.istore 7, 2) := by decide +kernel
theorem d_Mo_store_144 : decode m_Mo_store.2.1 144 = .ok (.aload_n 0, 1) := by decide +kernel
theorem d_Mo_store_145 : decode m_Mo_store.2.1 145 = .ok (.getfield 32, 3) := by decide +kernel
theorem d_Mo_store_148 : decode m_Mo_store.2.1 148 = .ok (.iload 5, 2) := by decide +kernel
theorem d_Mo_store_150 : decode m_Mo_store.2.1 150 = .ok (.iconst 1, 1) := by decide +kernel
theorem d_Mo_store_151 : decode m_Mo_store.2.1 151 = .ok (.iadd, 1) := by decide +kernel
theorem d_Mo_store_152 : decode m_Mo_store.2.1 152 = .ok (.iaload, 1) := by decide +kernel
theorem d_Mo_store_153 : decode m_Mo_store.2.1 153 = .ok (.aload_n 0, 1) := by decide +kernel
theorem d_Mo_store_154 : decode m_Mo_store.2.1 154 = .ok (.getfield 44, 3) := by decide +kernel
theorem d_Mo_store_157 : decode m_Mo_store.2.1 157 = .ok (.iload_n 2, 1) := by decide +kernel
theorem d_Mo_store_158 : decode m_Mo_store.2.1 158 = .ok (.iaload, 1) := by decide +kernel
theorem d_Mo_store_159 : decode m_Mo_store.2.1 159 = .ok (.if_icmp .le 15, 3) := by decide +kernel
theorem d_Mo_store_162 : decode m_Mo_store.2.1 162 = .ok (.aload_n 0, 1) := by decide +kernel
theorem d_Mo_store_163 : decode m_Mo_store.2.1 163 = .ok (.getfield 32, 3) := by decide +kernel
theorem d_Mo_store_166 : decode m_Mo_store.2.1 166 = .ok (.iload 5, 2) := by decide +kernel
theorem d_Mo_store_168 : decode m_Mo_store.2.1 168 = .ok (.iconst 1, 1) := by decide +kernel
theorem d_Mo_store_169 : decode m_Mo_store.2.1 169 = .ok (.iadd, 1) := by decide +kernel
theorem d_Mo_store_170 : decode m_Mo_store.2.1 170 = .ok (.iaload, 1) := by decide +kernel
theorem d_Mo_store_171 : decode m_Mo_store.2.1 171 = .ok (.goto 9, 3) := by decide +kernel
theorem d_Mo_store_174 : decode m_Mo_store.2.1 174 = .ok (.aload_n 0, 1) := by decide +kernel
theorem d_Mo_store_175 : decode m_Mo_store.2.1 175 = .ok (.getfield 44, 3) := by decide +kernel
theorem d_Mo_store_178 : decode m_Mo_store.2.1 178 = .ok (.iload_n 2, 1) := by decide +kernel
theorem d_Mo_store_179 : decode m_Mo_store.2.1 179 = .ok (.iaload, 1) := by decide +kernel
theorem d_Mo_store_180 : decode m_Mo_store.2.1 180 = .ok (.istore 8, 2) := by decide +kernel
theorem d_Mo_store_182 : decode m_Mo_store.2.1 182 = .ok (.aload_n 0, 1) := by decide +kernel
theorem d_Mo_store_183 : decode m_Mo_store.2.1 183 = .ok (.getfield 32, 3) := by decide +kernel
theorem d_Mo_store_186 : decode m_Mo_store.2.1 186 = .ok (.iload 5, 2) := by decide +kernel
theorem d_Mo_store_188 : decode m_Mo_store.2.1 188 = .ok (.iaload, 1) := by decide +kernel
theorem d_Mo_store_189 : decode m_Mo_store.2.1 189 = .ok (.aload_n 0, 1) := by decide +kernel
theorem d_Mo_store_190 : decode m_Mo_store.2.1 190 = .ok (.getfield 32, 3) := by decide +kernel
theorem d_Mo_store_193 : decode m_Mo_store.2.1 193 = .ok (.iload 5, 2) := by decide +kernel
theorem d_Mo_store_195 : decode m_Mo_store.2.1 195 = .ok (.iconst 2, 1) := by decide +kernel
theorem d_Mo_store_196 : decode m_Mo_store.2.1 196 = .ok (.iadd, 1) := by decide +kernel
theorem d_Mo_store_197 : decode m_Mo_store.2.1 197 = .ok (.iaload, 1) := by decide +kernel
theorem d_Mo_store_198 : decode m_Mo_store.2.1 198 = .ok (.iadd, 1) := by decide +kernel
theorem d_Mo_store_199 : decode m_Mo_store.2.1 199 = .ok (.istore 9, 2) := by decide +kernel
theorem d_Mo_store_201 : decode m_Mo_store.2.1 201 = .ok (.aload_n 0, 1) := by decide +kernel
theorem d_Mo_store_202 : decode m_Mo_store.2.1 202 = .ok (.getfield 32, 3) := by decide +kernel
theorem d_Mo_store_205 : decode m_Mo_store.2.1 205 = .ok (.iload 5, 2) := by decide +kernel
theorem d_Mo_store_207 : decode m_Mo_store.2.1 207 = .ok (.iconst 1, 1) := by decide +kernel
theorem d_Mo_store_208 : decode m_Mo_store.2.1 208 = .ok (.iadd, 1) := by decide +kernel
theorem d_Mo_store_209 : decode m_Mo_store.2.1 209 = .ok (.iaload, 1) := by decide +kernel
theorem d_Mo_store_210 : decode m_Mo_store.2.1 210 = .ok (.aload_n 0, 1) := by decide +kernel
theorem d_Mo_store_211 : decode m_Mo_store.2.1 211 = .ok (.getfield 32, 3) := by decide +kernel
theorem d_Mo_store_214 : decode m_Mo_store.2.1 214 = .ok (.iload 5, 2) := by decide +kernel
theorem d_Mo_store_216 : decode m_Mo_store.2.1 216 = .ok (.iconst 3, 1) := by decide +kernel
theorem d_Mo_store_217 : decode m_Mo_store.2.1 217 = .ok (.iadd, 1) := by decide +kernel
theorem d_Mo_store_218 : decode m_Mo_store.2.1 218 = .ok (.iaload, 1) := by decide +kernel
theorem d_Mo_store_219 : decode m_Mo_store.2.1 219 = .ok (.iadd, 1) := by decide +kernel
theorem d_Mo_store_220 : decode m_Mo_store.2.1 220 = .ok (.istore 10, 2) := by decide +kernel
theorem d_Mo_store_222 : decode m_Mo_store.2.1 222 = .ok (.iload 9, 2) := by decide +kernel
theorem d_Mo_store_224 : decode m_Mo_store.2.1 224 = .ok (.aload_n 0, 1) := by decide +kernel
theorem d_Mo_store_225 : decode m_Mo_store.2.1 225 = .ok (.getfield 41, 3) := by decide +kernel
theorem d_Mo_store_228 : decode m_Mo_store.2.1 228 = .ok (.iload_n 2, 1) := by decide +kernel
theorem d_Mo_store_229 : decode m_Mo_store.2.1 229 = .ok (.iaload, 1) := by decide +kernel
theorem d_Mo_store_230 : decode m_Mo_store.2.1 230 = .ok (.aload_n 0, 1) := by decide +kernel
theorem d_Mo_store_231 : decode m_Mo_store.2.1 231 = .ok (.getfield 47, 3) := by decide +kernel
theorem d_Mo_store_234 : decode m_Mo_store.2.1 234 = .ok (.iload_n 2, 1) := by decide +kernel
theorem d_Mo_store_235 : decode m_Mo_store.2.1 235 = .ok (.iaload, 1) := by decide +kernel
theorem d_Mo_store_236 : decode m_Mo_store.2.1 236 = .ok (.iadd, 1) := by decide +kernel
theorem d_Mo_store_237 : decode m_Mo_store.2.1 237 = .ok (.if_icmp .ge 8, 3) := by decide +kernel
theorem d_Mo_store_240 : decode m_Mo_store.2.1 240 = .ok (.iload 9, 2) := by decide +kernel
theorem d_Mo_store_242 : decode m_Mo_store.2.1 242 = .ok (.goto 16, 3) := by decide +kernel
theorem d_Mo_store_245 : decode m_Mo_store.2.1 245 = .ok (.aload_n 0, 1) := by decide +kernel
theorem d_Mo_store_246 : decode m_Mo_store.2.1 246 = .ok (.getfield 41, 3) := by decide +kernel
theorem d_Mo_store_249 : decode m_Mo_store.2.1 249 = .ok (.iload_n 2, 1) := by decide +kernel
theorem d_Mo_store_250 : decode m_Mo_store.2.1 250 = .ok (.iaload, 1) := by decide +kernel
theorem d_Mo_store_251 : decode m_Mo_store.2.1 251 = .ok (.aload_n 0, 1) := by decide +kernel
theorem d_Mo_store_252 : decode m_Mo_store.2.1 252 = .ok (.getfield 47, 3) := by decide +kernel
theorem d_Mo_store_255 : decode m_Mo_store.2.1 255 = .ok (.iload_n 2, 1) := by decide +kernel
theorem d_Mo_store_256 : decode m_Mo_store.2.1 256 = .ok (.iaload, 1) := by decide +kernel
theorem d_Mo_store_257 : decode m_Mo_store.2.1 257 = .ok (.iadd, 1) := by decide +kernel
theorem d_Mo_store_258 : decode m_Mo_store.2.1 258 = .ok (.istore 9, 2) := by decide +kernel
theorem d_Mo_store_260 : decode m_Mo_store.2.1 260 = .ok (.iload 10, 2) := by decide +kernel
theorem d_Mo_store_262 : decode m_Mo_store.2.1 262 = .ok (.aload_n 0, 1) := by decide +kernel
theorem d_Mo_store_263 : decode m_Mo_store.2.1 263 = .ok (.getfield 44, 3) := by decide +kernel
theorem d_Mo_store_266 : decode m_Mo_store.2.1 266 = .ok (.iload_n 2, 1) := by decide +kernel
theorem d_Mo_store_267 : decode m_Mo_store.2.1 267 = .ok (.iaload, 1) := by decide +kernel
theorem d_Mo_store_268 : decode m_Mo_store.2.1 268 = .ok (.aload_n 0, 1) := by decide +kernel
theorem d_Mo_store_269 : decode m_Mo_store.2.1 269 = .ok (.getfield 50, 3) := by decide +kernel
theorem d_Mo_store_272 : decode m_Mo_store.2.1 272 = .ok (.iload_n 2, 1) := by decide +kernel
theorem d_Mo_store_273 : decode m_Mo_store.2.1 273 = .ok (.iaload, 1) := by decide +kernel
theorem d_Mo_store_274 : decode m_Mo_store.2.1 274 = .ok (.iadd, 1) := by decide +kernel
theorem d_Mo_store_275 : decode m_Mo_store.2.1 275 = .ok (.if_icmp .ge 8, 3) := by decide +kernel
theorem d_Mo_store_278 : decode m_Mo_store.2.1 278 = .ok (.iload 10, 2) := by decide +kernel
theorem d_Mo_store_280 : decode m_Mo_store.2.1 280 = .ok (.goto 16, 3) := by decide +kernel
theorem d_Mo_store_283 : decode m_Mo_store.2.1 283 = .ok (.aload_n 0, 1) := by decide +kernel
theorem d_Mo_store_284 : decode m_Mo_store.2.1 284 = .ok (.getfield 44, 3) := by decide +kernel
theorem d_Mo_store_287 : decode m_Mo_store.2.1 287 = .ok (.iload_n 2, 1) := by decide +kernel
theorem d_Mo_store_288 : decode m_Mo_store.2.1 288 = .ok (.iaload, 1) := by decide +kernel
theorem d_Mo_store_289 : decode m_Mo_store.2.1 289 = .ok (.aload_n 0, 1) := by decide +kernel
theorem d_Mo_store_290 : decode m_Mo_store.2.1 290 = .ok (.getfield 50, 3) := by decide +kernel
theorem d_Mo_store_293 : decode m_Mo_store.2.1 293 = .ok (.iload_n 2, 1) := by decide +kernel
theorem d_Mo_store_294 : decode m_Mo_store.2.1 294 = .ok (.iaload, 1) := by decide +kernel
theorem d_Mo_store_295 : decode m_Mo_store.2.1 295 = .ok (.iadd, 1) := by decide +kernel
theorem d_Mo_store_296 : decode m_Mo_store.2.1 296 = .ok (.istore 10, 2) := by decide +kernel
theorem d_Mo_store_298 : decode m_Mo_store.2.1 298 = .ok (.aload_n 0, 1) := by decide +kernel
theorem d_Mo_store_299 : decode m_Mo_store.2.1 299 = .ok (.getfield 92, 3) := by decide +kernel
theorem d_Mo_store_302 : decode m_Mo_store.2.1 302 = .ok (.iload 6, 2) := by decide +kernel
theorem d_Mo_store_304 : decode m_Mo_store.2.1 304 = .ok (.iload 7, 2) := by decide +kernel
theorem d_Mo_store_306 : decode m_Mo_store.2.1 306 = .ok (.aload_n 0, 1) := by decide +kernel
theorem d_Mo_store_307 : decode m_Mo_store.2.1 307 = .ok (.getfield 41, 3) := by decide +kernel
theorem d_Mo_store_310 : decode m_Mo_store.2.1 310 = .ok (.iload_n 2, 1) := by decide +kernel
theorem d_Mo_store_311 : decode m_Mo_store.2.1 311 = .ok (.iaload, 1) := by decide +kernel
theorem d_Mo_store_312 : decode m_Mo_store.2.1 312 = .ok (.isub, 1) := by decide +kernel
theorem d_Mo_store_313 : decode m_Mo_store.2.1 313 = .ok (.iastore, 1) := by decide +kernel
theorem d_Mo_store_314 : decode m_Mo_store.2.1 314 = .ok (.aload_n 0, 1) := by decide +kernel
theorem d_Mo_store_315 : decode m_Mo_store.2.1 315 = .ok (.getfield 92, 3) := by decide +kernel
theorem d_Mo_store_318 : decode m_Mo_store.2.1 318 = .ok (.iload 6, 2) := by decide +kernel
theorem d_Mo_store_320 : decode m_Mo_store.2.1 320 = .ok (.iconst 1, 1) := by decide +kernel
theorem d_Mo_store_321 : decode m_Mo_store.2.1 321 = .ok (.iadd, 1) := by decide +kernel
theorem d_Mo_store_322 : decode m_Mo_store.2.1 322 = .ok (.iload 8, 2) := by decide +kernel
theorem d_Mo_store_324 : decode m_Mo_store.2.1 324 = .ok (.aload_n 0, 1) := by decide +kernel
theorem d_Mo_store_325 : decode m_Mo_store.2.1 325 = .ok (.getfield 44, 3) := by decide +kernel
theorem d_Mo_store_328 : decode m_Mo_store.2.1 328 = .ok (.iload_n 2, 1) := by decide +kernel
theorem d_Mo_store_329 : decode m_Mo_store.2.1 329 = .ok (.iaload, 1) := by decide +kernel
theorem d_Mo_store_330 : decode m_Mo_store.2.1 330 = .ok (.isub, 1) := by decide +kernel
theorem d_Mo_store_331 : decode m_Mo_store.2.1 331 = .ok (.iastore, 1) := by decide +kernel
theorem d_Mo_store_332 : decode m_Mo_store.2.1 332 = .ok (.aload_n 0, 1) := by decide +kernel
theorem d_Mo_store_333 : decode m_Mo_store.2.1 333 = .ok (.getfield 92, 3) := by decide +kernel
theorem d_Mo_store_336 : decode m_Mo_store.2.1 336 = .ok (.iload 6, 2) := by decide +kernel
theorem d_Mo_store_338 : decode m_Mo_store.2.1 338 = .ok (.iconst 2, 1) := by decide +kernel
theorem d_Mo_store_339 : decode m_Mo_store.2.1 339 = .ok (.iadd, 1) := by decide +kernel
theorem d_Mo_store_340 : decode m_Mo_store.2.1 340 = .ok (.iload 9, 2) := by decide +kernel
theorem d_Mo_store_342 : decode m_Mo_store.2.1 342 = .ok (.iload 7, 2) := by decide +kernel
theorem d_Mo_store_344 : decode m_Mo_store.2.1 344 = .ok (.isub, 1) := by decide +kernel
theorem d_Mo_store_345 : decode m_Mo_store.2.1 345 = .ok (.iastore, 1) := by decide +kernel
theorem d_Mo_store_346 : decode m_Mo_store.2.1 346 = .ok (.aload_n 0, 1) := by decide +kernel
theorem d_Mo_store_347 : decode m_Mo_store.2.1 347 = .ok (.getfield 92, 3) := by decide +kernel
theorem d_Mo_store_350 : decode m_Mo_store.2.1 350 = .ok (.iload 6, 2) := by decide +kernel
theorem d_Mo_store_352 : decode m_Mo_store.2.1 352 = .ok (.iconst 3, 1) := by decide +kernel
theorem d_Mo_store_353 : decode m_Mo_store.2.1 353 = .ok (.iadd, 1) := by decide +kernel
theorem d_Mo_store_354 : decode m_Mo_store.2.1 354 = .ok (.iload 10, 2) := by decide +kernel
theorem d_Mo_store_356 : decode m_Mo_store.2.1 356 = .ok (.iload 8, 2) := by decide +kernel
theorem d_Mo_store_358 : decode m_Mo_store.2.1 358 = .ok (.isub, 1) := by decide +kernel
theorem d_Mo_store_359 : decode m_Mo_store.2.1 359 = .ok (.iastore, 1) := by decide +kernel
theorem d_Mo_store_360 : decode m_Mo_store.2.1 360 = .ok (.aload_n 0, 1) := by decide +kernel
theorem d_Mo_store_361 : decode m_Mo_store.2.1 361 = .ok (.getfield 89, 3) := by decide +kernel
theorem d_Mo_store_364 : decode m_Mo_store.2.1 364 = .ok (.iload_n 3, 1) := by decide +kernel
theorem d_Mo_store_365 : decode m_Mo_store.2.1 365 = .ok (.dup2, 1) := by decide +kernel
theorem d_Mo_store_366 : decode m_Mo_store.2.1 366 = .ok (.iaload, 1) := by decide +kernel
theorem d_Mo_store_367 : decode m_Mo_store.2.1 367 = .ok (.iconst 1, 1) := by decide +kernel
theorem d_Mo_store_368 : decode m_Mo_store.2.1 368 = .ok (.iadd, 1) := by decide +kernel
theorem d_Mo_store_369 : decode m_Mo_store.2.1 369 = .ok (.iastore, 1) := by decide +kernel
theorem d_Mo_store_370 : decode m_Mo_store.2.1 370 = .ok (.iinc 4 1, 3) := by decide +kernel
theorem d_Mo_store_373 : decode m_Mo_store.2.1 373 = .ok (.goto (-334), 3) := by decide +kernel
theorem d_Mo_store_376 : decode m_Mo_store.2.1 376 = .ok (.aload_n 0, 1) := by decide +kernel
theorem d_Mo_store_377 : decode m_Mo_store.2.1 377 = .ok (.dup, 1) := by decide +kernel
theorem d_Mo_store_378 : decode m_Mo_store.2.1 378 = .ok (.getfield 263, 3) := by decide +kernel
theorem d_Mo_store_381 : decode m_Mo_store.2.1 381 = .ok (.iconst 1, 1) := by decide +kernel
theorem d_Mo_store_382 : decode m_Mo_store.2.1 382 = .ok (.iadd, 1) := by decide +kernel
theorem d_Mo_store_383 : decode m_Mo_store.2.1 383 = .ok (.putfield 263, 3) := by decide +kernel
theorem d_Mo_store_386 : decode m_Mo_store.2.1 386 = .ok (.return_, 1) := by decide +kernel
theorem d_Mo_leave_0 : decode m_Mo_leave.2.1 0 = .ok (.iconst 0, 1) := by decide +kernel
theorem d_Mo_leave_1 : decode m_Mo_leave.2.1 1 = .ok (.istore_n 2, 1) := by decide +kernel
theorem d_Mo_leave_2 : decode m_Mo_leave.2.1 2 = .ok (.iconst 0, 1) := by decide +kernel
theorem d_Mo_leave_3 : decode m_Mo_leave.2.1 3 = .ok (.istore_n 3, 1) := by decide +kernel
theorem d_Mo_leave_4 : decode m_Mo_leave.2.1 4 = .ok (.iload_n 3, 1) := by decide +kernel
theorem d_Mo_leave_5 : decode m_Mo_leave.2.1 5 = .ok (.aload_n 0, 1) := by decide +kernel
theorem d_Mo_leave_6 : decode m_Mo_leave.2.1 6 = .ok (.getfield 35, 3) := by decide +kernel
theorem d_Mo_leave_9 : decode m_Mo_leave.2.1 9 = .ok (.iload_n 1, 1) := by decide +kernel
theorem d_Mo_leave_10 : decode m_Mo_leave.2.1 10 = .ok (.iaload, 1) := by decide +kernel
theorem d_Mo_leave_11 : decode m_Mo_leave.2.1 11 = .ok (.if_icmp .ge 35, 3) := by decide +kernel
theorem d_Mo_leave_14 : decode m_Mo_leave.2.1 14 = .ok (.iload_n 2, 1) := by decide +kernel
theorem d_Mo_leave_15 : decode m_Mo_leave.2.1 15 = .ok (.ifCond .ne 19, 3) := by decide +kernel
theorem d_Mo_leave_18 : decode m_Mo_leave.2.1 18 = .ok (.aload_n 0, 1) := by decide +kernel
theorem d_Mo_leave_19 : decode m_Mo_leave.2.1 19 = .ok (.getfield 62, 3) := by decide +kernel
theorem d_Mo_leave_22 : decode m_Mo_leave.2.1 22 = .ok (.sipush 160, 3) := by decide +kernel
theorem d_Mo_leave_25 : decode m_Mo_leave.2.1 25 = .ok (.iload_n 1, 1) := by decide +kernel
theorem d_Mo_leave_26 : decode m_Mo_leave.2.1 26 = .ok (.imul, 1) := by decide +kernel
theorem d_Mo_leave_27 : decode m_Mo_leave.2.1 27 = .ok (.iload_n 3, 1) := by decide +kernel
theorem d_Mo_leave_28 : decode m_Mo_leave.2.1 28 = .ok (.iadd, 1) := by decide +kernel
theorem d_Mo_leave_29 : decode m_Mo_leave.2.1 29 = .ok (.iaload, 1) := by decide +kernel
theorem d_Mo_leave_30 : decode m_Mo_leave.2.1 30 = .ok (.iconst 1, 1) := by decide +kernel
theorem d_Mo_leave_31 : decode m_Mo_leave.2.1 31 = .ok (.if_icmp .ne 7, 3) := by decide +kernel
theorem d_Mo_leave_34 : decode m_Mo_leave.2.1 34 = .ok (.iconst 1, 1) := by decide +kernel
theorem d_Mo_leave_35 : decode m_Mo_leave.2.1 35 = .ok (.goto 4, 3) := by decide +kernel
theorem d_Mo_leave_38 : decode m_Mo_leave.2.1 38 = .ok (.iconst 0, 1) := by decide +kernel
theorem d_Mo_leave_39 : decode m_Mo_leave.2.1 39 = .ok (.istore_n 2, 1) := by decide +kernel
theorem d_Mo_leave_40 : decode m_Mo_leave.2.1 40 = .ok (.iinc 3 1, 3) := by decide +kernel
theorem d_Mo_leave_43 : decode m_Mo_leave.2.1 43 = .ok (.goto (-39), 3) := by decide +kernel
theorem d_Mo_leave_46 : decode m_Mo_leave.2.1 46 = .ok (.aload_n 0, 1) := by decide +kernel
theorem d_Mo_leave_47 : decode m_Mo_leave.2.1 47 = .ok (.getfield 7, 3) := by decide +kernel
theorem d_Mo_leave_50 : decode m_Mo_leave.2.1 50 = .ok (.iload_n 1, 1) := by decide +kernel
theorem d_Mo_leave_51 : decode m_Mo_leave.2.1 51 = .ok (.iload_n 2, 1) := by decide +kernel
theorem d_Mo_leave_52 : decode m_Mo_leave.2.1 52 = .ok (.bastore, 1) := by decide +kernel
theorem d_Mo_leave_53 : decode m_Mo_leave.2.1 53 = .ok (.return_, 1) := by decide +kernel
theorem d_Mo_broke_0 : decode m_Mo_broke.2.1 0 = .ok (.aload_n 0, 1) := by decide +kernel
theorem d_Mo_broke_1 : decode m_Mo_broke.2.1 1 = .ok (.iload_n 1, 1) := by decide +kernel
theorem d_Mo_broke_2 : decode m_Mo_broke.2.1 2 = .ok (.invokevirtual 166, 3) := by decide +kernel
theorem d_Mo_broke_5 : decode m_Mo_broke.2.1 5 = .ok (.istore_n 3, 1) := by decide +kernel
theorem d_Mo_broke_6 : decode m_Mo_broke.2.1 6 = .ok (.aload_n 0, 1) := by decide +kernel
theorem d_Mo_broke_7 : decode m_Mo_broke.2.1 7 = .ok (.iload_n 3, 1) := by decide +kernel
theorem d_Mo_broke_8 : decode m_Mo_broke.2.1 8 = .ok (.ifCond .ge 7, 3) := by decide +kernel
theorem d_Mo_broke_11 : decode m_Mo_broke.2.1 11 = .ok (.iconst 1, 1) := by decide +kernel
theorem d_Mo_broke_12 : decode m_Mo_broke.2.1 12 = .ok (.goto 55, 3) := by decide +kernel
theorem d_Mo_broke_15 : decode m_Mo_broke.2.1 15 = .ok (.aload_n 0, 1) := by decide +kernel
theorem d_Mo_broke_16 : decode m_Mo_broke.2.1 16 = .ok (.getfield 23, 3) := by decide +kernel
theorem d_Mo_broke_19 : decode m_Mo_broke.2.1 19 = .ok (.iload_n 3, 1) := by decide +kernel
theorem d_Mo_broke_20 : decode m_Mo_broke.2.1 20 = .ok (.baload, 1) := by decide +kernel
theorem d_Mo_broke_21 : decode m_Mo_broke.2.1 21 = .ok (.ifCond .ne 7, 3) := by decide +kernel
theorem d_Mo_broke_24 : decode m_Mo_broke.2.1 24 = .ok (.iconst 2, 1) := by decide +kernel
theorem d_Mo_broke_25 : decode m_Mo_broke.2.1 25 = .ok (.goto 42, 3) := by decide +kernel
theorem d_Mo_broke_28 : decode m_Mo_broke.2.1 28 = .ok (.iload_n 2, 1) := by decide +kernel
theorem d_Mo_broke_29 : decode m_Mo_broke.2.1 29 = .ok (.ifCond .lt 13, 3) := by decide +kernel
theorem d_Mo_broke_32 : decode m_Mo_broke.2.1 32 = .ok (.iload_n 2, 1) := by decide +kernel
theorem d_Mo_broke_33 : decode m_Mo_broke.2.1 33 = .ok (.aload_n 0, 1) := by decide +kernel
theorem d_Mo_broke_34 : decode m_Mo_broke.2.1 34 = .ok (.getfield 35, 3) := by decide +kernel
theorem d_Mo_broke_37 : decode m_Mo_broke.2.1 37 = .ok (.iload_n 3, 1) := by decide +kernel
theorem d_Mo_broke_38 : decode m_Mo_broke.2.1 38 = .ok (.iaload, 1) := by decide +kernel
theorem d_Mo_broke_39 : decode m_Mo_broke.2.1 39 = .ok (.if_icmp .lt 7, 3) := by decide +kernel
theorem d_Mo_broke_42 : decode m_Mo_broke.2.1 42 = .ok (.iconst 3, 1) := by decide +kernel
theorem d_Mo_broke_43 : decode m_Mo_broke.2.1 43 = .ok (.goto 24, 3) := by decide +kernel
theorem d_Mo_broke_46 : decode m_Mo_broke.2.1 46 = .ok (.aload_n 0, 1) := by decide +kernel
theorem d_Mo_broke_47 : decode m_Mo_broke.2.1 47 = .ok (.getfield 62, 3) := by decide +kernel
theorem d_Mo_broke_50 : decode m_Mo_broke.2.1 50 = .ok (.sipush 160, 3) := by decide +kernel
theorem d_Mo_broke_53 : decode m_Mo_broke.2.1 53 = .ok (.iload_n 3, 1) := by decide +kernel
theorem d_Mo_broke_54 : decode m_Mo_broke.2.1 54 = .ok (.imul, 1) := by decide +kernel
theorem d_Mo_broke_55 : decode m_Mo_broke.2.1 55 = .ok (.iload_n 2, 1) := by decide +kernel
theorem d_Mo_broke_56 : decode m_Mo_broke.2.1 56 = .ok (.iadd, 1) := by decide +kernel
theorem d_Mo_broke_57 : decode m_Mo_broke.2.1 57 = .ok (.iaload, 1) := by decide +kernel
theorem d_Mo_broke_58 : decode m_Mo_broke.2.1 58 = .ok (.iconst 1, 1) := by decide +kernel
theorem d_Mo_broke_59 : decode m_Mo_broke.2.1 59 = .ok (.if_icmp .eq 7, 3) := by decide +kernel
theorem d_Mo_broke_62 : decode m_Mo_broke.2.1 62 = .ok (.iconst 2, 1) := by decide +kernel
theorem d_Mo_broke_63 : decode m_Mo_broke.2.1 63 = .ok (.goto 4, 3) := by decide +kernel
theorem d_Mo_broke_66 : decode m_Mo_broke.2.1 66 = .ok (.iconst 0, 1) := by decide +kernel
theorem d_Mo_broke_67 : decode m_Mo_broke.2.1 67 = .ok (.putfield 140, 3) := by decide +kernel
theorem d_Mo_broke_70 : decode m_Mo_broke.2.1 70 = .ok (.aload_n 0, 1) := by decide +kernel
theorem d_Mo_broke_71 : decode m_Mo_broke.2.1 71 = .ok (.getfield 140, 3) := by decide +kernel
theorem d_Mo_broke_74 : decode m_Mo_broke.2.1 74 = .ok (.ifCond .le 5, 3) := by decide +kernel
theorem d_Mo_broke_77 : decode m_Mo_broke.2.1 77 = .ok (.iconst 0, 1) := by decide +kernel
theorem d_Mo_broke_78 : decode m_Mo_broke.2.1 78 = .ok (.ireturn, 1) := by decide +kernel
theorem d_Mo_broke_79 : decode m_Mo_broke.2.1 79 = .ok (.sipush 160, 3) := by decide +kernel
theorem d_Mo_broke_82 : decode m_Mo_broke.2.1 82 = .ok (.iload_n 3, 1) := by decide +kernel
theorem d_Mo_broke_83 : decode m_Mo_broke.2.1 83 = .ok (.imul, 1) := by decide +kernel
theorem d_Mo_broke_84 : decode m_Mo_broke.2.1 84 = .ok (.iload_n 2, 1) := by decide +kernel
theorem d_Mo_broke_85 : decode m_Mo_broke.2.1 85 = .ok (.iadd, 1) := by decide +kernel
theorem d_Mo_broke_86 : decode m_Mo_broke.2.1 86 = .ok (.istore 4, 2) := by decide +kernel
theorem d_Mo_broke_88 : decode m_Mo_broke.2.1 88 = .ok (.aload_n 0, 1) := by decide +kernel
theorem d_Mo_broke_89 : decode m_Mo_broke.2.1 89 = .ok (.dup, 1) := by decide +kernel
theorem d_Mo_broke_90 : decode m_Mo_broke.2.1 90 = .ok (.getfield 282, 3) := by decide +kernel
theorem d_Mo_broke_93 : decode m_Mo_broke.2.1 93 = .ok (.aload_n 0, 1) := by decide +kernel
theorem d_Mo_broke_94 : decode m_Mo_broke.2.1 94 = .ok (.getfield 47, 3) := by decide +kernel
theorem d_Mo_broke_97 : decode m_Mo_broke.2.1 97 = .ok (.iload 4, 2) := by decide +kernel
theorem d_Mo_broke_99 : decode m_Mo_broke.2.1 99 = .ok (.iaload, 1) := by decide +kernel
theorem d_Mo_broke_100 : decode m_Mo_broke.2.1 100 = .ok (.i2l, 1) := by decide +kernel
theorem d_Mo_broke_101 : decode m_Mo_broke.2.1 101 = .ok (.aload_n 0, 1) := by decide +kernel
theorem d_Mo_broke_102 : decode m_Mo_broke.2.1 102 = .ok (.getfield 50, 3) := by decide +kernel
theorem d_Mo_broke_105 : decode m_Mo_broke.2.1 105 = .ok (.iload 4, 2) := by decide +kernel
theorem d_Mo_broke_107 : decode m_Mo_broke.2.1 107 = .ok (.iaload, 1) := by decide +kernel
theorem d_Mo_broke_108 : decode m_Mo_broke.2.1 108 = .ok (.i2l, 1) := by decide +kernel
theorem d_Mo_broke_109 : decode m_Mo_broke.2.1 109 = .ok (.lmul, 1) := by decide +kernel
theorem d_Mo_broke_110 : decode m_Mo_broke.2.1 110 = .ok (.ladd, 1) := by decide +kernel
theorem d_Mo_broke_111 : decode m_Mo_broke.2.1 111 = .ok (.putfield 282, 3) := by decide +kernel
theorem d_Mo_broke_114 : decode m_Mo_broke.2.1 114 = .ok (.iconst 0, 1) := by decide +kernel
theorem d_Mo_broke_115 : decode m_Mo_broke.2.1 115 = .ok (.istore 5, 2) := by decide +kernel
theorem d_Mo_broke_117 : decode m_Mo_broke.2.1 117 = .ok (.iconst 1, 1) := by decide +kernel
theorem d_Mo_broke_118 : decode m_Mo_broke.2.1 118 = .ok (.istore 6, 2) := by decide +kernel
theorem d_Mo_broke_120 : decode m_Mo_broke.2.1 120 = .ok (.iload_n 2, 1) := by decide +kernel
theorem d_Mo_broke_121 : decode m_Mo_broke.2.1 121 = .ok (.istore 7, 2) := by decide +kernel
theorem d_Mo_broke_123 : decode m_Mo_broke.2.1 123 = .ok (.iload 7, 2) := by decide +kernel
theorem d_Mo_broke_125 : decode m_Mo_broke.2.1 125 = .ok (.aload_n 0, 1) := by decide +kernel
theorem d_Mo_broke_126 : decode m_Mo_broke.2.1 126 = .ok (.getfield 35, 3) := by decide +kernel
theorem d_Mo_broke_129 : decode m_Mo_broke.2.1 129 = .ok (.iload_n 3, 1) := by decide +kernel
theorem d_Mo_broke_130 : decode m_Mo_broke.2.1 130 = .ok (.iaload, 1) := by decide +kernel
theorem d_Mo_broke_131 : decode m_Mo_broke.2.1 131 = .ok (.if_icmp .ge 204, 3) := by decide +kernel
theorem d_Mo_broke_134 : decode m_Mo_broke.2.1 134 = .ok (.sipush 160, 3) := by decide +kernel
theorem d_Mo_broke_137 : decode m_Mo_broke.2.1 137 = .ok (.iload_n 3, 1) := by decide +kernel
theorem d_Mo_broke_138 : decode m_Mo_broke.2.1 138 = .ok (.imul, 1) := by decide +kernel
theorem d_Mo_broke_139 : decode m_Mo_broke.2.1 139 = .ok (.iload 7, 2) := by decide +kernel
theorem d_Mo_broke_141 : decode m_Mo_broke.2.1 141 = .ok (.iadd, 1) := by decide +kernel
theorem d_Mo_broke_142 : decode m_Mo_broke.2.1 142 = .ok (.istore 8, 2) := by decide +kernel
theorem d_Mo_broke_144 : decode m_Mo_broke.2.1 144 = .ok (.aload_n 0, 1) := by decide +kernel
theorem d_Mo_broke_145 : decode m_Mo_broke.2.1 145 = .ok (.getfield 41, 3) := by decide +kernel
theorem d_Mo_broke_148 : decode m_Mo_broke.2.1 148 = .ok (.iload 8, 2) := by decide +kernel
theorem d_Mo_broke_150 : decode m_Mo_broke.2.1 150 = .ok (.iaload, 1) := by decide +kernel
theorem d_Mo_broke_151 : decode m_Mo_broke.2.1 151 = .ok (.aload_n 0, 1) := by decide +kernel
theorem d_Mo_broke_152 : decode m_Mo_broke.2.1 152 = .ok (.getfield 41, 3) := by decide +kernel
theorem d_Mo_broke_155 : decode m_Mo_broke.2.1 155 = .ok (.iload 4, 2) := by decide +kernel
theorem d_Mo_broke_157 : decode m_Mo_broke.2.1 157 = .ok (.iaload, 1) := by decide +kernel
theorem d_Mo_broke_158 : decode m_Mo_broke.2.1 158 = .ok (.if_icmp .lt 90, 3) := by decide +kernel
theorem d_Mo_broke_161 : decode m_Mo_broke.2.1 161 = .ok (.aload_n 0, 1) := by decide +kernel
theorem d_Mo_broke_162 : decode m_Mo_broke.2.1 162 = .ok (.getfield 44, 3) := by decide +kernel
theorem d_Mo_broke_165 : decode m_Mo_broke.2.1 165 = .ok (.iload 8, 2) := by decide +kernel
theorem d_Mo_broke_167 : decode m_Mo_broke.2.1 167 = .ok (.iaload, 1) := by decide +kernel
theorem d_Mo_broke_168 : decode m_Mo_broke.2.1 168 = .ok (.aload_n 0, 1) := by decide +kernel
theorem d_Mo_broke_169 : decode m_Mo_broke.2.1 169 = .ok (.getfield 44, 3) := by decide +kernel
theorem d_Mo_broke_172 : decode m_Mo_broke.2.1 172 = .ok (.iload 4, 2) := by decide +kernel
theorem d_Mo_broke_174 : decode m_Mo_broke.2.1 174 = .ok (.iaload, 1) := by decide +kernel
theorem d_Mo_broke_175 : decode m_Mo_broke.2.1 175 = .ok (.if_icmp .lt 73, 3) := by decide +kernel
theorem d_Mo_broke_178 : decode m_Mo_broke.2.1 178 = .ok (.aload_n 0, 1) := by decide +kernel
theorem d_Mo_broke_179 : decode m_Mo_broke.2.1 179 = .ok (.getfield 41, 3) := by decide +kernel
theorem d_Mo_broke_182 : decode m_Mo_broke.2.1 182 = .ok (.iload 8, 2) := by decide +kernel
theorem d_Mo_broke_184 : decode m_Mo_broke.2.1 184 = .ok (.iaload, 1) := by decide +kernel
theorem d_Mo_broke_185 : decode m_Mo_broke.2.1 185 = .ok (.aload_n 0, 1) := by decide +kernel
theorem d_Mo_broke_186 : decode m_Mo_broke.2.1 186 = .ok (.getfield 47, 3) := by decide +kernel
theorem d_Mo_broke_189 : decode m_Mo_broke.2.1 189 = .ok (.iload 8, 2) := by decide +kernel
theorem d_Mo_broke_191 : decode m_Mo_broke.2.1 191 = .ok (.iaload, 1) := by decide +kernel
theorem d_Mo_broke_192 : decode m_Mo_broke.2.1 192 = .ok (.iadd, 1) := by decide +kernel
theorem d_Mo_broke_193 : decode m_Mo_broke.2.1 193 = .ok (.aload_n 0, 1) := by decide +kernel
theorem d_Mo_broke_194 : decode m_Mo_broke.2.1 194 = .ok (.getfield 41, 3) := by decide +kernel
theorem d_Mo_broke_197 : decode m_Mo_broke.2.1 197 = .ok (.iload 4, 2) := by decide +kernel
theorem d_Mo_broke_199 : decode m_Mo_broke.2.1 199 = .ok (.iaload, 1) := by decide +kernel
theorem d_Mo_broke_200 : decode m_Mo_broke.2.1 200 = .ok (.aload_n 0, 1) := by decide +kernel
theorem d_Mo_broke_201 : decode m_Mo_broke.2.1 201 = .ok (.getfield 47, 3) := by decide +kernel
theorem d_Mo_broke_204 : decode m_Mo_broke.2.1 204 = .ok (.iload 4, 2) := by decide +kernel
theorem d_Mo_broke_206 : decode m_Mo_broke.2.1 206 = .ok (.iaload, 1) := by decide +kernel
theorem d_Mo_broke_207 : decode m_Mo_broke.2.1 207 = .ok (.iadd, 1) := by decide +kernel
theorem d_Mo_broke_208 : decode m_Mo_broke.2.1 208 = .ok (.if_icmp .gt 40, 3) := by decide +kernel
theorem d_Mo_broke_211 : decode m_Mo_broke.2.1 211 = .ok (.aload_n 0, 1) := by decide +kernel
theorem d_Mo_broke_212 : decode m_Mo_broke.2.1 212 = .ok (.getfield 44, 3) := by decide +kernel
theorem d_Mo_broke_215 : decode m_Mo_broke.2.1 215 = .ok (.iload 8, 2) := by decide +kernel
theorem d_Mo_broke_217 : decode m_Mo_broke.2.1 217 = .ok (.iaload, 1) := by decide +kernel
theorem d_Mo_broke_218 : decode m_Mo_broke.2.1 218 = .ok (.aload_n 0, 1) := by decide +kernel
theorem d_Mo_broke_219 : decode m_Mo_broke.2.1 219 = .ok (.getfield 50, 3) := by decide +kernel
theorem d_Mo_broke_222 : decode m_Mo_broke.2.1 222 = .ok (.iload 8, 2) := by decide +kernel
theorem d_Mo_broke_224 : decode m_Mo_broke.2.1 224 = .ok (.iaload, 1) := by decide +kernel
theorem d_Mo_broke_225 : decode m_Mo_broke.2.1 225 = .ok (.iadd, 1) := by decide +kernel
theorem d_Mo_broke_226 : decode m_Mo_broke.2.1 226 = .ok (.aload_n 0, 1) := by decide +kernel
theorem d_Mo_broke_227 : decode m_Mo_broke.2.1 227 = .ok (.getfield 44, 3) := by decide +kernel
theorem d_Mo_broke_230 : decode m_Mo_broke.2.1 230 = .ok (.iload 4, 2) := by decide +kernel
theorem d_Mo_broke_232 : decode m_Mo_broke.2.1 232 = .ok (.iaload, 1) := by decide +kernel
theorem d_Mo_broke_233 : decode m_Mo_broke.2.1 233 = .ok (.aload_n 0, 1) := by decide +kernel
theorem d_Mo_broke_234 : decode m_Mo_broke.2.1 234 = .ok (.getfield 50, 3) := by decide +kernel
theorem d_Mo_broke_237 : decode m_Mo_broke.2.1 237 = .ok (.iload 4, 2) := by decide +kernel
theorem d_Mo_broke_239 : decode m_Mo_broke.2.1 239 = .ok (.iaload, 1) := by decide +kernel
theorem d_Mo_broke_240 : decode m_Mo_broke.2.1 240 = .ok (.iadd, 1) := by decide +kernel
theorem d_Mo_broke_241 : decode m_Mo_broke.2.1 241 = .ok (.if_icmp .gt 7, 3) := by decide +kernel
theorem d_Mo_broke_244 : decode m_Mo_broke.2.1 244 = .ok (.iconst 1, 1) := by decide +kernel
theorem d_Mo_broke_245 : decode m_Mo_broke.2.1 245 = .ok (.goto 4, 3) := by decide +kernel
theorem d_Mo_broke_248 : decode m_Mo_broke.2.1 248 = .ok (.iconst 0, 1) := by decide +kernel
theorem d_Mo_broke_249 : decode m_Mo_broke.2.1 249 = .ok (.istore 6, 2) := by decide +kernel
theorem d_Mo_broke_251 : decode m_Mo_broke.2.1 251 = .ok (.iload 6, 2) := by decide +kernel
theorem d_Mo_broke_253 : decode m_Mo_broke.2.1 253 = .ok (.ifCond .eq 76, 3) := by decide +kernel
theorem d_Mo_broke_256 : decode m_Mo_broke.2.1 256 = .ok (.aload_n 0, 1) := by decide +kernel
theorem d_Mo_broke_257 : decode m_Mo_broke.2.1 257 = .ok (.getfield 62, 3) := by decide +kernel
theorem d_Mo_broke_260 : decode m_Mo_broke.2.1 260 = .ok (.iload 8, 2) := by decide +kernel
theorem d_Mo_broke_262 : decode m_Mo_broke.2.1 262 = .ok (.iconst 3, 1) := by decide +kernel
theorem d_Mo_broke_263 : decode m_Mo_broke.2.1 263 = .ok (.iastore, 1) := by decide +kernel
theorem d_Mo_broke_264 : decode m_Mo_broke.2.1 264 = .ok (.aload_n 0, 1) := by decide +kernel
theorem d_Mo_broke_265 : decode m_Mo_broke.2.1 265 = .ok (.getfield 38, 3) := by decide +kernel
theorem d_Mo_broke_268 : decode m_Mo_broke.2.1 268 = .ok (.iload 8, 2) := by decide +kernel
theorem d_Mo_broke_270 : decode m_Mo_broke.2.1 270 = .ok (.iaload, 1) := by decide +kernel
theorem d_Mo_broke_271 : decode m_Mo_broke.2.1 271 = .ok (.iconst 2, 1) := by decide +kernel
theorem d_Mo_broke_272 : decode m_Mo_broke.2.1 272 = .ok (.if_icmp .ne 10, 3) := by decide +kernel
theorem d_Mo_broke_275 : decode m_Mo_broke.2.1 275 = .ok (.iload 5, 2) := by decide +kernel
theorem d_Mo_broke_277 : decode m_Mo_broke.2.1 277 = .ok (.iconst 1, 1) := by decide +kernel
theorem d_Mo_broke_278 : decode m_Mo_broke.2.1 278 = .ok (.iadd, 1) := by decide +kernel
theorem d_Mo_broke_279 : decode m_Mo_broke.2.1 279 = .ok (.goto 5, 3) := by decide +kernel
theorem d_Mo_broke_282 : decode m_Mo_broke.2.1 282 = .ok (.iload 5, 2) := by decide +kernel
theorem d_Mo_broke_284 : decode m_Mo_broke.2.1 284 = .ok (.istore 5, 2) := by decide +kernel
theorem d_Mo_broke_286 : decode m_Mo_broke.2.1 286 = .ok (.aload_n 0, 1) := by decide +kernel
theorem d_Mo_broke_287 : decode m_Mo_broke.2.1 287 = .ok (.getfield 38, 3) := by decide +kernel
theorem d_Mo_broke_290 : decode m_Mo_broke.2.1 290 = .ok (.iload 8, 2) := by decide +kernel
theorem d_Mo_broke_292 : decode m_Mo_broke.2.1 292 = .ok (.iaload, 1) := by decide +kernel
theorem d_Mo_broke_293 : decode m_Mo_broke.2.1 293 = .ok (.iconst 2, 1) := by decide +kernel
theorem d_Mo_broke_294 : decode m_Mo_broke.2.1 294 = .ok (.if_icmp .ne 35, 3) := by decide +kernel
theorem d_Mo_broke_297 : decode m_Mo_broke.2.1 297 = .ok (.aload_n 0, 1) := by decide +kernel
theorem d_Mo_broke_298 : decode m_Mo_broke.2.1 298 = .ok (.getfield 77, 3) := by decide +kernel
theorem d_Mo_broke_301 : decode m_Mo_broke.2.1 301 = .ok (.aload_n 0, 1) := by decide +kernel
theorem d_Mo_broke_302 : decode m_Mo_broke.2.1 302 = .ok (.getfield 53, 3) := by decide +kernel
theorem d_Mo_broke_305 : decode m_Mo_broke.2.1 305 = .ok (.iload 8, 2) := by decide +kernel
theorem d_Mo_broke_307 : decode m_Mo_broke.2.1 307 = .ok (.iaload, 1) := by decide +kernel
theorem d_Mo_broke_308 : decode m_Mo_broke.2.1 308 = .ok (.dup2, 1) := by decide +kernel
theorem d_Mo_broke_309 : decode m_Mo_broke.2.1 309 = .ok (.iaload, 1) := by decide +kernel
theorem d_Mo_broke_310 : decode m_Mo_broke.2.1 310 = .ok (.iconst 1, 1) := by decide +kernel
theorem d_Mo_broke_311 : decode m_Mo_broke.2.1 311 = .ok (.isub, 1) := by decide +kernel
theorem d_Mo_broke_312 : decode m_Mo_broke.2.1 312 = .ok (.iastore, 1) := by decide +kernel
theorem d_Mo_broke_313 : decode m_Mo_broke.2.1 313 = .ok (.aload_n 0, 1) := by decide +kernel
theorem d_Mo_broke_314 : decode m_Mo_broke.2.1 314 = .ok (.getfield 74, 3) := by decide +kernel
theorem d_Mo_broke_317 : decode m_Mo_broke.2.1 317 = .ok (.aload_n 0, 1) := by decide +kernel
theorem d_Mo_broke_318 : decode m_Mo_broke.2.1 318 = .ok (.getfield 53, 3) := by decide +kernel
theorem d_Mo_broke_321 : decode m_Mo_broke.2.1 321 = .ok (.iload 8, 2) := by decide +kernel
theorem d_Mo_broke_323 : decode m_Mo_broke.2.1 323 = .ok (.iaload, 1) := by decide +kernel
theorem d_Mo_broke_324 : decode m_Mo_broke.2.1 324 = .ok (.dup2, 1) := by decide +kernel
theorem d_Mo_broke_325 : decode m_Mo_broke.2.1 325 = .ok (.iaload, 1) := by decide +kernel
theorem d_Mo_broke_326 : decode m_Mo_broke.2.1 326 = .ok (.iconst 1, 1) := by decide +kernel
theorem d_Mo_broke_327 : decode m_Mo_broke.2.1 327 = .ok (.iadd, 1) := by decide +kernel
theorem d_Mo_broke_328 : decode m_Mo_broke.2.1 328 = .ok (.iastore, 1) := by decide +kernel
theorem d_Mo_broke_329 : decode m_Mo_broke.2.1 329 = .ok (.iinc 7 1, 3) := by decide +kernel
theorem d_Mo_broke_332 : decode m_Mo_broke.2.1 332 = .ok (.goto (-209), 3) := by decide +kernel
theorem d_Mo_broke_335 : decode m_Mo_broke.2.1 335 = .ok (.aload_n 0, 1) := by decide +kernel
theorem d_Mo_broke_336 : decode m_Mo_broke.2.1 336 = .ok (.iload_n 3, 1) := by decide +kernel
theorem d_Mo_broke_337 : decode m_Mo_broke.2.1 337 = .ok (.invokevirtual 279, 3) := by decide +kernel
theorem d_Mo_broke_340 : decode m_Mo_broke.2.1 340 = .ok (.iload 5, 2) := by decide +kernel
theorem d_Mo_broke_342 : decode m_Mo_broke.2.1 342 = .ok (.ireturn, 1) := by decide +kernel
theorem d_Mo_cancel_0 : decode m_Mo_cancel.2.1 0 = .ok (.aload_n 0, 1) := by decide +kernel
theorem d_Mo_cancel_1 : decode m_Mo_cancel.2.1 1 = .ok (.iload_n 1, 1) := by decide +kernel
theorem d_Mo_cancel_2 : decode m_Mo_cancel.2.1 2 = .ok (.invokevirtual 166, 3) := by decide +kernel
theorem d_Mo_cancel_5 : decode m_Mo_cancel.2.1 5 = .ok (.istore_n 2, 1) := by decide +kernel
theorem d_Mo_cancel_6 : decode m_Mo_cancel.2.1 6 = .ok (.aload_n 0, 1) := by decide +kernel
theorem d_Mo_cancel_7 : decode m_Mo_cancel.2.1 7 = .ok (.iload_n 2, 1) := by decide +kernel
theorem d_Mo_cancel_8 : decode m_Mo_cancel.2.1 8 = .ok (.ifCond .ge 7, 3) := by decide +kernel
theorem d_Mo_cancel_11 : decode m_Mo_cancel.2.1 11 = .ok (.iconst 1, 1) := by decide +kernel
theorem d_Mo_cancel_12 : decode m_Mo_cancel.2.1 12 = .ok (.goto 26, 3) := by decide +kernel
theorem d_Mo_cancel_15 : decode m_Mo_cancel.2.1 15 = .ok (.aload_n 0, 1) := by decide +kernel
theorem d_Mo_cancel_16 : decode m_Mo_cancel.2.1 16 = .ok (.getfield 23, 3) := by decide +kernel
theorem d_Mo_cancel_19 : decode m_Mo_cancel.2.1 19 = .ok (.iload_n 2, 1) := by decide +kernel
theorem d_Mo_cancel_20 : decode m_Mo_cancel.2.1 20 = .ok (.baload, 1) := by decide +kernel
theorem d_Mo_cancel_21 : decode m_Mo_cancel.2.1 21 = .ok (.ifCond .eq 12, 3) := by decide +kernel
theorem d_Mo_cancel_24 : decode m_Mo_cancel.2.1 24 = .ok (.aload_n 0, 1) := by decide +kernel
theorem d_Mo_cancel_25 : decode m_Mo_cancel.2.1 25 = .ok (.getfield 26, 3) := by decide +kernel
theorem d_Mo_cancel_28 : decode m_Mo_cancel.2.1 28 = .ok (.iload_n 2, 1) := by decide +kernel
theorem d_Mo_cancel_29 : decode m_Mo_cancel.2.1 29 = .ok (.baload, 1) := by decide +kernel
theorem d_Mo_cancel_30 : decode m_Mo_cancel.2.1 30 = .ok (.ifCond .eq 7, 3) := by decide +kernel
theorem d_Mo_cancel_33 : decode m_Mo_cancel.2.1 33 = .ok (.iconst 2, 1) := by decide +kernel
theorem d_Mo_cancel_34 : decode m_Mo_cancel.2.1 34 = .ok (.goto 4, 3) := by decide +kernel
theorem d_Mo_cancel_37 : decode m_Mo_cancel.2.1 37 = .ok (.iconst 0, 1) := by decide +kernel
theorem d_Mo_cancel_38 : decode m_Mo_cancel.2.1 38 = .ok (.putfield 140, 3) := by decide +kernel
theorem d_Mo_cancel_41 : decode m_Mo_cancel.2.1 41 = .ok (.aload_n 0, 1) := by decide +kernel
theorem d_Mo_cancel_42 : decode m_Mo_cancel.2.1 42 = .ok (.getfield 140, 3) := by decide +kernel
theorem d_Mo_cancel_45 : decode m_Mo_cancel.2.1 45 = .ok (.ifCond .le 5, 3) := by decide +kernel
theorem d_Mo_cancel_48 : decode m_Mo_cancel.2.1 48 = .ok (.iconst 0, 1) := by decide +kernel
theorem d_Mo_cancel_49 : decode m_Mo_cancel.2.1 49 = .ok (.ireturn, 1) := by decide +kernel
theorem d_Mo_cancel_50 : decode m_Mo_cancel.2.1 50 = .ok (.iconst 0, 1) := by decide +kernel
theorem d_Mo_cancel_51 : decode m_Mo_cancel.2.1 51 = .ok (.istore_n 3, 1) := by decide +kernel
theorem d_Mo_cancel_52 : decode m_Mo_cancel.2.1 52 = .ok (.iconst 0, 1) := by decide +kernel
theorem d_Mo_cancel_53 : decode m_Mo_cancel.2.1 53 = .ok (.istore 4, 2) := by decide +kernel
theorem d_Mo_cancel_55 : decode m_Mo_cancel.2.1 55 = .ok (.iload 4, 2) := by decide +kernel
theorem d_Mo_cancel_57 : decode m_Mo_cancel.2.1 57 = .ok (.aload_n 0, 1) := by decide +kernel
theorem d_Mo_cancel_58 : decode m_Mo_cancel.2.1 58 = .ok (.getfield 35, 3) := by decide +kernel
theorem d_Mo_cancel_61 : decode m_Mo_cancel.2.1 61 = .ok (.iload_n 2, 1) := by decide +kernel
theorem d_Mo_cancel_62 : decode m_Mo_cancel.2.1 62 = .ok (.iaload, 1) := by decide +kernel
theorem d_Mo_cancel_63 : decode m_Mo_cancel.2.1 63 = .ok (.if_icmp .ge 65, 3) := by decide +kernel
theorem d_Mo_cancel_66 : decode m_Mo_cancel.2.1 66 = .ok (.sipush 160, 3) := by decide +kernel
theorem d_Mo_cancel_69 : decode m_Mo_cancel.2.1 69 = .ok (.iload_n 2, 1) := by decide +kernel
theorem d_Mo_cancel_70 : decode m_Mo_cancel.2.1 70 = .ok (.imul, 1) := by decide +kernel
theorem d_Mo_cancel_71 : decode m_Mo_cancel.2.1 71 = .ok (.iload 4, 2) := by decide +kernel
theorem d_Mo_cancel_73 : decode m_Mo_cancel.2.1 73 = .ok (.iadd, 1) := by decide +kernel
theorem d_Mo_cancel_74 : decode m_Mo_cancel.2.1 74 = .ok (.istore 5, 2) := by decide +kernel
theorem d_Mo_cancel_76 : decode m_Mo_cancel.2.1 76 = .ok (.aload_n 0, 1) := by decide +kernel
theorem d_Mo_cancel_77 : decode m_Mo_cancel.2.1 77 = .ok (.getfield 38, 3) := by decide +kernel
theorem d_Mo_cancel_80 : decode m_Mo_cancel.2.1 80 = .ok (.iload 5, 2) := by decide +kernel
theorem d_Mo_cancel_82 : decode m_Mo_cancel.2.1 82 = .ok (.iaload, 1) := by decide +kernel
theorem d_Mo_cancel_83 : decode m_Mo_cancel.2.1 83 = .ok (.iconst 2, 1) := by decide +kernel
theorem d_Mo_cancel_84 : decode m_Mo_cancel.2.1 84 = .ok (.if_icmp .ne 38, 3) := by decide +kernel
theorem d_Mo_cancel_87 : decode m_Mo_cancel.2.1 87 = .ok (.aload_n 0, 1) := by decide +kernel
theorem d_Mo_cancel_88 : decode m_Mo_cancel.2.1 88 = .ok (.getfield 77, 3) := by decide +kernel
theorem d_Mo_cancel_91 : decode m_Mo_cancel.2.1 91 = .ok (.aload_n 0, 1) := by decide +kernel
theorem d_Mo_cancel_92 : decode m_Mo_cancel.2.1 92 = .ok (.getfield 53, 3) := by decide +kernel
theorem d_Mo_cancel_95 : decode m_Mo_cancel.2.1 95 = .ok (.iload 5, 2) := by decide +kernel
theorem d_Mo_cancel_97 : decode m_Mo_cancel.2.1 97 = .ok (.iaload, 1) := by decide +kernel
theorem d_Mo_cancel_98 : decode m_Mo_cancel.2.1 98 = .ok (.dup2, 1) := by decide +kernel
theorem d_Mo_cancel_99 : decode m_Mo_cancel.2.1 99 = .ok (.iaload, 1) := by decide +kernel
theorem d_Mo_cancel_100 : decode m_Mo_cancel.2.1 100 = .ok (.iconst 1, 1) := by decide +kernel
theorem d_Mo_cancel_101 : decode m_Mo_cancel.2.1 101 = .ok (.isub, 1) := by decide +kernel
theorem d_Mo_cancel_102 : decode m_Mo_cancel.2.1 102 = .ok (.iastore, 1) := by decide +kernel
theorem d_Mo_cancel_103 : decode m_Mo_cancel.2.1 103 = .ok (.aload_n 0, 1) := by decide +kernel
theorem d_Mo_cancel_104 : decode m_Mo_cancel.2.1 104 = .ok (.getfield 74, 3) := by decide +kernel
theorem d_Mo_cancel_107 : decode m_Mo_cancel.2.1 107 = .ok (.aload_n 0, 1) := by decide +kernel
theorem d_Mo_cancel_108 : decode m_Mo_cancel.2.1 108 = .ok (.getfield 53, 3) := by decide +kernel
theorem d_Mo_cancel_111 : decode m_Mo_cancel.2.1 111 = .ok (.iload 5, 2) := by decide +kernel
theorem d_Mo_cancel_113 : decode m_Mo_cancel.2.1 113 = .ok (.iaload, 1) := by decide +kernel
theorem d_Mo_cancel_114 : decode m_Mo_cancel.2.1 114 = .ok (.dup2, 1) := by decide +kernel
theorem d_Mo_cancel_115 : decode m_Mo_cancel.2.1 115 = .ok (.iaload, 1) := by decide +kernel
theorem d_Mo_cancel_116 : decode m_Mo_cancel.2.1 116 = .ok (.iconst 1, 1) := by decide +kernel
theorem d_Mo_cancel_117 : decode m_Mo_cancel.2.1 117 = .ok (.iadd, 1) := by decide +kernel
theorem d_Mo_cancel_118 : decode m_Mo_cancel.2.1 118 = .ok (.iastore, 1) := by decide +kernel
theorem d_Mo_cancel_119 : decode m_Mo_cancel.2.1 119 = .ok (.iinc 3 1, 3) := by decide +kernel
theorem d_Mo_cancel_122 : decode m_Mo_cancel.2.1 122 = .ok (.iinc 4 1, 3) := by decide +kernel
theorem d_Mo_cancel_125 : decode m_Mo_cancel.2.1 125 = .ok (.goto (-70), 3) := by decide +kernel
theorem d_Mo_cancel_128 : decode m_Mo_cancel.2.1 128 = .ok (.aload_n 0, 1) := by decide +kernel
theorem d_Mo_cancel_129 : decode m_Mo_cancel.2.1 129 = .ok (.getfield 23, 3) := by decide +kernel
theorem d_Mo_cancel_132 : decode m_Mo_cancel.2.1 132 = .ok (.iload_n 2, 1) := by decide +kernel
theorem d_Mo_cancel_133 : decode m_Mo_cancel.2.1 133 = .ok (.iconst 0, 1) := by decide +kernel
theorem d_Mo_cancel_134 : decode m_Mo_cancel.2.1 134 = .ok (.bastore, 1) := by decide +kernel
theorem d_Mo_cancel_135 : decode m_Mo_cancel.2.1 135 = .ok (.iload_n 3, 1) := by decide +kernel
theorem d_Mo_cancel_136 : decode m_Mo_cancel.2.1 136 = .ok (.ireturn, 1) := by decide +kernel
theorem d_Mo_nodes_0 : decode m_Mo_nodes.2.1 0 = .ok (.aload_n 0, 1) := by decide +kernel
theorem d_Mo_nodes_1 : decode m_Mo_nodes.2.1 1 = .ok (.iload_n 1, 1) := by decide +kernel
theorem d_Mo_nodes_2 : decode m_Mo_nodes.2.1 2 = .ok (.invokevirtual 166, 3) := by decide +kernel
theorem d_Mo_nodes_5 : decode m_Mo_nodes.2.1 5 = .ok (.istore_n 2, 1) := by decide +kernel
theorem d_Mo_nodes_6 : decode m_Mo_nodes.2.1 6 = .ok (.aload_n 0, 1) := by decide +kernel
theorem d_Mo_nodes_7 : decode m_Mo_nodes.2.1 7 = .ok (.iload_n 2, 1) := by decide +kernel
theorem d_Mo_nodes_8 : decode m_Mo_nodes.2.1 8 = .ok (.ifCond .ge 7, 3) := by decide +kernel
theorem d_Mo_nodes_11 : decode m_Mo_nodes.2.1 11 = .ok (.iconst 1, 1) := by decide +kernel
theorem d_Mo_nodes_12 : decode m_Mo_nodes.2.1 12 = .ok (.goto 17, 3) := by decide +kernel
theorem d_Mo_nodes_15 : decode m_Mo_nodes.2.1 15 = .ok (.aload_n 0, 1) := by decide +kernel
theorem d_Mo_nodes_16 : decode m_Mo_nodes.2.1 16 = .ok (.getfield 23, 3) := by decide +kernel
theorem d_Mo_nodes_19 : decode m_Mo_nodes.2.1 19 = .ok (.iload_n 2, 1) := by decide +kernel
theorem d_Mo_nodes_20 : decode m_Mo_nodes.2.1 20 = .ok (.baload, 1) := by decide +kernel
theorem d_Mo_nodes_21 : decode m_Mo_nodes.2.1 21 = .ok (.ifCond .eq 7, 3) := by decide +kernel
theorem d_Mo_nodes_24 : decode m_Mo_nodes.2.1 24 = .ok (.iconst 0, 1) := by decide +kernel
theorem d_Mo_nodes_25 : decode m_Mo_nodes.2.1 25 = .ok (.goto 4, 3) := by decide +kernel
theorem d_Mo_nodes_28 : decode m_Mo_nodes.2.1 28 = .ok (.iconst 2, 1) := by decide +kernel
theorem d_Mo_nodes_29 : decode m_Mo_nodes.2.1 29 = .ok (.putfield 140, 3) := by decide +kernel
theorem d_Mo_nodes_32 : decode m_Mo_nodes.2.1 32 = .ok (.aload_n 0, 1) := by decide +kernel
theorem d_Mo_nodes_33 : decode m_Mo_nodes.2.1 33 = .ok (.getfield 140, 3) := by decide +kernel
theorem d_Mo_nodes_36 : decode m_Mo_nodes.2.1 36 = .ok (.ifCond .le 7, 3) := by decide +kernel
theorem d_Mo_nodes_39 : decode m_Mo_nodes.2.1 39 = .ok (.iconst 0, 1) := by decide +kernel
theorem d_Mo_nodes_40 : decode m_Mo_nodes.2.1 40 = .ok (.goto 9, 3) := by decide +kernel
theorem d_Mo_nodes_43 : decode m_Mo_nodes.2.1 43 = .ok (.aload_n 0, 1) := by decide +kernel
theorem d_Mo_nodes_44 : decode m_Mo_nodes.2.1 44 = .ok (.getfield 35, 3) := by decide +kernel
theorem d_Mo_nodes_47 : decode m_Mo_nodes.2.1 47 = .ok (.iload_n 2, 1) := by decide +kernel
theorem d_Mo_nodes_48 : decode m_Mo_nodes.2.1 48 = .ok (.iaload, 1) := by decide +kernel
theorem d_Mo_nodes_49 : decode m_Mo_nodes.2.1 49 = .ok (.ireturn, 1) := by decide +kernel
theorem d_Mo_node_0 : decode m_Mo_node.2.1 0 = .ok (.aload_n 0, 1) := by decide +kernel
theorem d_Mo_node_1 : decode m_Mo_node.2.1 1 = .ok (.iload_n 1, 1) := by decide +kernel
theorem d_Mo_node_2 : decode m_Mo_node.2.1 2 = .ok (.invokevirtual 166, 3) := by decide +kernel
theorem d_Mo_node_5 : decode m_Mo_node.2.1 5 = .ok (.istore 4, 2) := by decide +kernel
theorem d_Mo_node_7 : decode m_Mo_node.2.1 7 = .ok (.aload_n 0, 1) := by decide +kernel
theorem d_Mo_node_8 : decode m_Mo_node.2.1 8 = .ok (.iload 4, 2) := by decide +kernel
theorem d_Mo_node_10 : decode m_Mo_node.2.1 10 = .ok (.ifCond .ge 7, 3) := by decide +kernel
theorem d_Mo_node_13 : decode m_Mo_node.2.1 13 = .ok (.iconst 1, 1) := by decide +kernel
theorem d_Mo_node_14 : decode m_Mo_node.2.1 14 = .ok (.goto 51, 3) := by decide +kernel
theorem d_Mo_node_17 : decode m_Mo_node.2.1 17 = .ok (.aload_n 0, 1) := by decide +kernel
theorem d_Mo_node_18 : decode m_Mo_node.2.1 18 = .ok (.getfield 23, 3) := by decide +kernel
theorem d_Mo_node_21 : decode m_Mo_node.2.1 21 = .ok (.iload 4, 2) := by decide +kernel
theorem d_Mo_node_23 : decode m_Mo_node.2.1 23 = .ok (.baload, 1) := by decide +kernel
theorem d_Mo_node_24 : decode m_Mo_node.2.1 24 = .ok (.ifCond .ne 7, 3) := by decide +kernel
theorem d_Mo_node_27 : decode m_Mo_node.2.1 27 = .ok (.iconst 2, 1) := by decide +kernel
theorem d_Mo_node_28 : decode m_Mo_node.2.1 28 = .ok (.goto 37, 3) := by decide +kernel
theorem d_Mo_node_31 : decode m_Mo_node.2.1 31 = .ok (.iload_n 2, 1) := by decide +kernel
theorem d_Mo_node_32 : decode m_Mo_node.2.1 32 = .ok (.ifCond .lt 14, 3) := by decide +kernel
theorem d_Mo_node_35 : decode m_Mo_node.2.1 35 = .ok (.iload_n 2, 1) := by decide +kernel
theorem d_Mo_node_36 : decode m_Mo_node.2.1 36 = .ok (.aload_n 0, 1) := by decide +kernel
theorem d_Mo_node_37 : decode m_Mo_node.2.1 37 = .ok (.getfield 35, 3) := by decide +kernel
theorem d_Mo_node_40 : decode m_Mo_node.2.1 40 = .ok (.iload 4, 2) := by decide +kernel
theorem d_Mo_node_42 : decode m_Mo_node.2.1 42 = .ok (.iaload, 1) := by decide +kernel
theorem d_Mo_node_43 : decode m_Mo_node.2.1 43 = .ok (.if_icmp .lt 7, 3) := by decide +kernel
theorem d_Mo_node_46 : decode m_Mo_node.2.1 46 = .ok (.iconst 3, 1) := by decide +kernel
theorem d_Mo_node_47 : decode m_Mo_node.2.1 47 = .ok (.goto 18, 3) := by decide +kernel
theorem d_Mo_node_50 : decode m_Mo_node.2.1 50 = .ok (.iload_n 3, 1) := by decide +kernel
theorem d_Mo_node_51 : decode m_Mo_node.2.1 51 = .ok (.ifCond .lt 9, 3) := by decide +kernel
theorem d_Mo_node_54 : decode m_Mo_node.2.1 54 = .ok (.iload_n 3, 1) := by decide +kernel
theorem d_Mo_node_55 : decode m_Mo_node.2.1 55 = .ok (.bipush 8, 2) := by decide +kernel
theorem d_Mo_node_57 : decode m_Mo_node.2.1 57 = .ok (.if_icmp .le 7, 3) := by decide +kernel
theorem d_Mo_node_60 : decode m_Mo_node.2.1 60 = .ok (.iconst 4, 1) := by decide +kernel
theorem d_Mo_node_61 : decode m_Mo_node.2.1 61 = .ok (.goto 4, 3) := by decide +kernel
theorem d_Mo_node_64 : decode m_Mo_node.2.1 64 = .ok (.iconst 0, 1) := by decide +kernel
theorem d_Mo_node_65 : decode m_Mo_node.2.1 65 = .ok (.putfield 140, 3) := by decide +kernel
theorem d_Mo_node_68 : decode m_Mo_node.2.1 68 = .ok (.aload_n 0, 1) := by decide +kernel
theorem d_Mo_node_69 : decode m_Mo_node.2.1 69 = .ok (.getfield 140, 3) := by decide +kernel
theorem d_Mo_node_72 : decode m_Mo_node.2.1 72 = .ok (.ifCond .le 5, 3) := by decide +kernel
theorem d_Mo_node_75 : decode m_Mo_node.2.1 75 = .ok (.iconst 0, 1) := by decide +kernel
theorem d_Mo_node_76 : decode m_Mo_node.2.1 76 = .ok (.ireturn, 1) := by decide +kernel
theorem d_Mo_node_77 : decode m_Mo_node.2.1 77 = .ok (.sipush 160, 3) := by decide +kernel
theorem d_Mo_node_80 : decode m_Mo_node.2.1 80 = .ok (.iload 4, 2) := by decide +kernel
theorem d_Mo_node_82 : decode m_Mo_node.2.1 82 = .ok (.imul, 1) := by decide +kernel
theorem d_Mo_node_83 : decode m_Mo_node.2.1 83 = .ok (.iload_n 2, 1) := by decide +kernel
theorem d_Mo_node_84 : decode m_Mo_node.2.1 84 = .ok (.iadd, 1) := by decide +kernel
theorem d_Mo_node_85 : decode m_Mo_node.2.1 85 = .ok (.istore 5, 2) := by decide +kernel
theorem d_Mo_node_87 : decode m_Mo_node.2.1 87 = .ok (.iload_n 3, 1) := by decide +kernel
theorem d_Mo_node_88 : decode m_Mo_node.2.1 88 = .ok (.tableswitch 112 0 7 #[48, 56, 64, 72, 80, 88, 96, 104], 48) := by decide +kernel
theorem d_Mo_node_136 : decode m_Mo_node.2.1 136 = .ok (.aload_n 0, 1) := by decide +kernel
theorem d_Mo_node_137 : decode m_Mo_node.2.1 137 = .ok (.getfield 38, 3) := by decide +kernel
theorem d_Mo_node_140 : decode m_Mo_node.2.1 140 = .ok (.iload 5, 2) := by decide +kernel
theorem d_Mo_node_142 : decode m_Mo_node.2.1 142 = .ok (.iaload, 1) := by decide +kernel
theorem d_Mo_node_143 : decode m_Mo_node.2.1 143 = .ok (.ireturn, 1) := by decide +kernel
theorem d_Mo_node_144 : decode m_Mo_node.2.1 144 = .ok (.aload_n 0, 1) := by decide +kernel
theorem d_Mo_node_145 : decode m_Mo_node.2.1 145 = .ok (.getfield 41, 3) := by decide +kernel
theorem d_Mo_node_148 : decode m_Mo_node.2.1 148 = .ok (.iload 5, 2) := by decide +kernel
theorem d_Mo_node_150 : decode m_Mo_node.2.1 150 = .ok (.iaload, 1) := by decide +kernel
theorem d_Mo_node_151 : decode m_Mo_node.2.1 151 = .ok (.ireturn, 1) := by decide +kernel
theorem d_Mo_node_152 : decode m_Mo_node.2.1 152 = .ok (.aload_n 0, 1) := by decide +kernel
theorem d_Mo_node_153 : decode m_Mo_node.2.1 153 = .ok (.getfield 44, 3) := by decide +kernel
theorem d_Mo_node_156 : decode m_Mo_node.2.1 156 = .ok (.iload 5, 2) := by decide +kernel
theorem d_Mo_node_158 : decode m_Mo_node.2.1 158 = .ok (.iaload, 1) := by decide +kernel
theorem d_Mo_node_159 : decode m_Mo_node.2.1 159 = .ok (.ireturn, 1) := by decide +kernel
theorem d_Mo_node_160 : decode m_Mo_node.2.1 160 = .ok (.aload_n 0, 1) := by decide +kernel
theorem d_Mo_node_161 : decode m_Mo_node.2.1 161 = .ok (.getfield 47, 3) := by decide +kernel
theorem d_Mo_node_164 : decode m_Mo_node.2.1 164 = .ok (.iload 5, 2) := by decide +kernel
theorem d_Mo_node_166 : decode m_Mo_node.2.1 166 = .ok (.iaload, 1) := by decide +kernel
theorem d_Mo_node_167 : decode m_Mo_node.2.1 167 = .ok (.ireturn, 1) := by decide +kernel
theorem d_Mo_node_168 : decode m_Mo_node.2.1 168 = .ok (.aload_n 0, 1) := by decide +kernel
theorem d_Mo_node_169 : decode m_Mo_node.2.1 169 = .ok (.getfield 50, 3) := by decide +kernel
theorem d_Mo_node_172 : decode m_Mo_node.2.1 172 = .ok (.iload 5, 2) := by decide +kernel
theorem d_Mo_node_174 : decode m_Mo_node.2.1 174 = .ok (.iaload, 1) := by decide +kernel
theorem d_Mo_node_175 : decode m_Mo_node.2.1 175 = .ok (.ireturn, 1) := by decide +kernel
theorem d_Mo_node_176 : decode m_Mo_node.2.1 176 = .ok (.aload_n 0, 1) := by decide +kernel
theorem d_Mo_node_177 : decode m_Mo_node.2.1 177 = .ok (.getfield 53, 3) := by decide +kernel
theorem d_Mo_node_180 : decode m_Mo_node.2.1 180 = .ok (.iload 5, 2) := by decide +kernel
theorem d_Mo_node_182 : decode m_Mo_node.2.1 182 = .ok (.iaload, 1) := by decide +kernel
theorem d_Mo_node_183 : decode m_Mo_node.2.1 183 = .ok (.ireturn, 1) := by decide +kernel
theorem d_Mo_node_184 : decode m_Mo_node.2.1 184 = .ok (.aload_n 0, 1) := by decide +kernel
theorem d_Mo_node_185 : decode m_Mo_node.2.1 185 = .ok (.getfield 56, 3) := by decide +kernel
theorem d_Mo_node_188 : decode m_Mo_node.2.1 188 = .ok (.iload 5, 2) := by decide +kernel
theorem d_Mo_node_190 : decode m_Mo_node.2.1 190 = .ok (.iaload, 1) := by decide +kernel
theorem d_Mo_node_191 : decode m_Mo_node.2.1 191 = .ok (.ireturn, 1) := by decide +kernel
theorem d_Mo_node_192 : decode m_Mo_node.2.1 192 = .ok (.aload_n 0, 1) := by decide +kernel
theorem d_Mo_node_193 : decode m_Mo_node.2.1 193 = .ok (.getfield 59, 3) := by decide +kernel
theorem d_Mo_node_196 : decode m_Mo_node.2.1 196 = .ok (.iload 5, 2) := by decide +kernel
theorem d_Mo_node_198 : decode m_Mo_node.2.1 198 = .ok (.iaload, 1) := by decide +kernel
theorem d_Mo_node_199 : decode m_Mo_node.2.1 199 = .ok (.ireturn, 1) := by decide +kernel
theorem d_Mo_node_200 : decode m_Mo_node.2.1 200 = .ok (.aload_n 0, 1) := by decide +kernel
theorem d_Mo_node_201 : decode m_Mo_node.2.1 201 = .ok (.getfield 62, 3) := by decide +kernel
theorem d_Mo_node_204 : decode m_Mo_node.2.1 204 = .ok (.iload 5, 2) := by decide +kernel
theorem d_Mo_node_206 : decode m_Mo_node.2.1 206 = .ok (.iaload, 1) := by decide +kernel
theorem d_Mo_node_207 : decode m_Mo_node.2.1 207 = .ok (.ireturn, 1) := by decide +kernel
theorem d_Mo_use_0 : decode m_Mo_use.2.1 0 = .ok (.aload_n 0, 1) := by decide +kernel
theorem d_Mo_use_1 : decode m_Mo_use.2.1 1 = .ok (.aload_n 0, 1) := by decide +kernel
theorem d_Mo_use_2 : decode m_Mo_use.2.1 2 = .ok (.iload_n 1, 1) := by decide +kernel
theorem d_Mo_use_3 : decode m_Mo_use.2.1 3 = .ok (.invokevirtual 285, 3) := by decide +kernel
theorem d_Mo_use_6 : decode m_Mo_use.2.1 6 = .ok (.ifCond .ne 7, 3) := by decide +kernel
theorem d_Mo_use_9 : decode m_Mo_use.2.1 9 = .ok (.iconst 1, 1) := by decide +kernel
theorem d_Mo_use_10 : decode m_Mo_use.2.1 10 = .ok (.goto 17, 3) := by decide +kernel
theorem d_Mo_use_13 : decode m_Mo_use.2.1 13 = .ok (.aload_n 0, 1) := by decide +kernel
theorem d_Mo_use_14 : decode m_Mo_use.2.1 14 = .ok (.invokevirtual 154, 3) := by decide +kernel
theorem d_Mo_use_17 : decode m_Mo_use.2.1 17 = .ok (.bipush 8, 2) := by decide +kernel
theorem d_Mo_use_19 : decode m_Mo_use.2.1 19 = .ok (.if_icmp .ne 7, 3) := by decide +kernel
theorem d_Mo_use_22 : decode m_Mo_use.2.1 22 = .ok (.iconst 2, 1) := by decide +kernel
theorem d_Mo_use_23 : decode m_Mo_use.2.1 23 = .ok (.goto 4, 3) := by decide +kernel
theorem d_Mo_use_26 : decode m_Mo_use.2.1 26 = .ok (.iconst 0, 1) := by decide +kernel
theorem d_Mo_use_27 : decode m_Mo_use.2.1 27 = .ok (.putfield 140, 3) := by decide +kernel
theorem d_Mo_use_30 : decode m_Mo_use.2.1 30 = .ok (.aload_n 0, 1) := by decide +kernel
theorem d_Mo_use_31 : decode m_Mo_use.2.1 31 = .ok (.getfield 140, 3) := by decide +kernel
theorem d_Mo_use_34 : decode m_Mo_use.2.1 34 = .ok (.ifCond .le 5, 3) := by decide +kernel
theorem d_Mo_use_37 : decode m_Mo_use.2.1 37 = .ok (.iconst 0, 1) := by decide +kernel
theorem d_Mo_use_38 : decode m_Mo_use.2.1 38 = .ok (.ireturn, 1) := by decide +kernel
theorem d_Mo_use_39 : decode m_Mo_use.2.1 39 = .ok (.aload_n 0, 1) := by decide +kernel
theorem d_Mo_use_40 : decode m_Mo_use.2.1 40 = .ok (.aload_n 0, 1) := by decide +kernel
theorem d_Mo_use_41 : decode m_Mo_use.2.1 41 = .ok (.getfield 83, 3) := by decide +kernel
theorem d_Mo_use_44 : decode m_Mo_use.2.1 44 = .ok (.iload_n 1, 1) := by decide +kernel
theorem d_Mo_use_45 : decode m_Mo_use.2.1 45 = .ok (.iaload, 1) := by decide +kernel
theorem d_Mo_use_46 : decode m_Mo_use.2.1 46 = .ok (.aload_n 0, 1) := by decide +kernel
theorem d_Mo_use_47 : decode m_Mo_use.2.1 47 = .ok (.getfield 86, 3) := by decide +kernel
theorem d_Mo_use_50 : decode m_Mo_use.2.1 50 = .ok (.iload_n 1, 1) := by decide +kernel
theorem d_Mo_use_51 : decode m_Mo_use.2.1 51 = .ok (.iaload, 1) := by decide +kernel
theorem d_Mo_use_52 : decode m_Mo_use.2.1 52 = .ok (.invokevirtual 162, 3) := by decide +kernel
theorem d_Mo_use_55 : decode m_Mo_use.2.1 55 = .ok (.istore_n 2, 1) := by decide +kernel
theorem d_Mo_use_56 : decode m_Mo_use.2.1 56 = .ok (.iconst 0, 1) := by decide +kernel
theorem d_Mo_use_57 : decode m_Mo_use.2.1 57 = .ok (.istore_n 3, 1) := by decide +kernel
theorem d_Mo_use_58 : decode m_Mo_use.2.1 58 = .ok (.iload_n 3, 1) := by decide +kernel
theorem d_Mo_use_59 : decode m_Mo_use.2.1 59 = .ok (.aload_n 0, 1) := by decide +kernel
theorem d_Mo_use_60 : decode m_Mo_use.2.1 60 = .ok (.getfield 89, 3) := by decide +kernel
theorem d_Mo_use_63 : decode m_Mo_use.2.1 63 = .ok (.iload_n 1, 1) := by decide +kernel
theorem d_Mo_use_64 : decode m_Mo_use.2.1 64 = .ok (.iaload, 1) := by decide +kernel
theorem d_Mo_use_65 : decode m_Mo_use.2.1 65 = .ok (.if_icmp .ge 58, 3) := by decide +kernel
theorem d_Mo_use_68 : decode m_Mo_use.2.1 68 = .ok (.bipush 24, 2) := by decide +kernel
theorem d_Mo_use_70 : decode m_Mo_use.2.1 70 = .ok (.iload_n 1, 1) := by decide +kernel
theorem d_Mo_use_71 : decode m_Mo_use.2.1 71 = .ok (.imul, 1) := by decide +kernel
theorem d_Mo_use_72 : decode m_Mo_use.2.1 72 = .ok (.iconst 4, 1) := by decide +kernel
theorem d_Mo_use_73 : decode m_Mo_use.2.1 73 = .ok (.iload_n 3, 1) := by decide +kernel
theorem d_Mo_use_74 : decode m_Mo_use.2.1 74 = .ok (.imul, 1) := by decide +kernel
theorem d_Mo_use_75 : decode m_Mo_use.2.1 75 = .ok (.iadd, 1) := by decide +kernel
theorem d_Mo_use_76 : decode m_Mo_use.2.1 76 = .ok (.istore 4, 2) := by decide +kernel
theorem d_Mo_use_78 : decode m_Mo_use.2.1 78 = .ok (.aload_n 0, 1) := by decide +kernel
theorem d_Mo_use_79 : decode m_Mo_use.2.1 79 = .ok (.iload_n 2, 1) := by decide +kernel
theorem d_Mo_use_80 : decode m_Mo_use.2.1 80 = .ok (.aload_n 0, 1) := by decide +kernel
theorem d_Mo_use_81 : decode m_Mo_use.2.1 81 = .ok (.getfield 92, 3) := by decide +kernel
theorem d_Mo_use_84 : decode m_Mo_use.2.1 84 = .ok (.iload 4, 2) := by decide +kernel
theorem d_Mo_use_86 : decode m_Mo_use.2.1 86 = .ok (.iaload, 1) := by decide +kernel
theorem d_Mo_use_87 : decode m_Mo_use.2.1 87 = .ok (.aload_n 0, 1) := by decide +kernel
theorem d_Mo_use_88 : decode m_Mo_use.2.1 88 = .ok (.getfield 92, 3) := by decide +kernel
theorem d_Mo_use_91 : decode m_Mo_use.2.1 91 = .ok (.iload 4, 2) := by decide +kernel
theorem d_Mo_use_93 : decode m_Mo_use.2.1 93 = .ok (.iconst 1, 1) := by decide +kernel
theorem d_Mo_use_94 : decode m_Mo_use.2.1 94 = .ok (.iadd, 1) := by decide +kernel
theorem d_Mo_use_95 : decode m_Mo_use.2.1 95 = .ok (.iaload, 1) := by decide +kernel
theorem d_Mo_use_96 : decode m_Mo_use.2.1 96 = .ok (.aload_n 0, 1) := by decide +kernel
theorem d_Mo_use_97 : decode m_Mo_use.2.1 97 = .ok (.getfield 92, 3) := by decide +kernel
theorem d_Mo_use_100 : decode m_Mo_use.2.1 100 = .ok (.iload 4, 2) := by decide +kernel
theorem d_Mo_use_102 : decode m_Mo_use.2.1 102 = .ok (.iconst 2, 1) := by decide +kernel
theorem d_Mo_use_103 : decode m_Mo_use.2.1 103 = .ok (.iadd, 1) := by decide +kernel
theorem d_Mo_use_104 : decode m_Mo_use.2.1 104 = .ok (.iaload, 1) := by decide +kernel
theorem d_Mo_use_105 : decode m_Mo_use.2.1 105 = .ok (.aload_n 0, 1) := by decide +kernel
theorem d_Mo_use_106 : decode m_Mo_use.2.1 106 = .ok (.getfield 92, 3) := by decide +kernel
theorem d_Mo_use_109 : decode m_Mo_use.2.1 109 = .ok (.iload 4, 2) := by decide +kernel
theorem d_Mo_use_111 : decode m_Mo_use.2.1 111 = .ok (.iconst 3, 1) := by decide +kernel
theorem d_Mo_use_112 : decode m_Mo_use.2.1 112 = .ok (.iadd, 1) := by decide +kernel
theorem d_Mo_use_113 : decode m_Mo_use.2.1 113 = .ok (.iaload, 1) := by decide +kernel
theorem d_Mo_use_114 : decode m_Mo_use.2.1 114 = .ok (.invokevirtual 170, 3) := by decide +kernel
theorem d_Mo_use_117 : decode m_Mo_use.2.1 117 = .ok (.iinc 3 1, 3) := by decide +kernel
theorem d_Mo_use_120 : decode m_Mo_use.2.1 120 = .ok (.goto (-62), 3) := by decide +kernel
theorem d_Mo_use_123 : decode m_Mo_use.2.1 123 = .ok (.aload_n 0, 1) := by decide +kernel
theorem d_Mo_use_124 : decode m_Mo_use.2.1 124 = .ok (.dup, 1) := by decide +kernel
theorem d_Mo_use_125 : decode m_Mo_use.2.1 125 = .ok (.getfield 263, 3) := by decide +kernel
theorem d_Mo_use_128 : decode m_Mo_use.2.1 128 = .ok (.iconst 1, 1) := by decide +kernel
theorem d_Mo_use_129 : decode m_Mo_use.2.1 129 = .ok (.isub, 1) := by decide +kernel
theorem d_Mo_use_130 : decode m_Mo_use.2.1 130 = .ok (.putfield 263, 3) := by decide +kernel
theorem d_Mo_use_133 : decode m_Mo_use.2.1 133 = .ok (.iload_n 1, 1) := by decide +kernel
theorem d_Mo_use_134 : decode m_Mo_use.2.1 134 = .ok (.istore_n 3, 1) := by decide +kernel
theorem d_Mo_use_135 : decode m_Mo_use.2.1 135 = .ok (.iload_n 3, 1) := by decide +kernel
theorem d_Mo_use_136 : decode m_Mo_use.2.1 136 = .ok (.aload_n 0, 1) := by decide +kernel
theorem d_Mo_use_137 : decode m_Mo_use.2.1 137 = .ok (.getfield 263, 3) := by decide +kernel
theorem d_Mo_use_140 : decode m_Mo_use.2.1 140 = .ok (.if_icmp .ge 17, 3) := by decide +kernel
theorem d_Mo_use_143 : decode m_Mo_use.2.1 143 = .ok (.aload_n 0, 1) := by decide +kernel
theorem d_Mo_use_144 : decode m_Mo_use.2.1 144 = .ok (.iload_n 3, 1) := by decide +kernel
theorem d_Mo_use_145 : decode m_Mo_use.2.1 145 = .ok (.iconst 1, 1) := by decide +kernel
theorem d_Mo_use_146 : decode m_Mo_use.2.1 146 = .ok (.iadd, 1) := by decide +kernel
theorem d_Mo_use_147 : decode m_Mo_use.2.1 147 = .ok (.iload_n 3, 1) := by decide +kernel
theorem d_Mo_use_148 : decode m_Mo_use.2.1 148 = .ok (.invokevirtual 288, 3) := by decide +kernel
theorem d_Mo_use_151 : decode m_Mo_use.2.1 151 = .ok (.iinc 3 1, 3) := by decide +kernel
theorem d_Mo_use_154 : decode m_Mo_use.2.1 154 = .ok (.goto (-19), 3) := by decide +kernel
theorem d_Mo_use_157 : decode m_Mo_use.2.1 157 = .ok (.aload_n 0, 1) := by decide +kernel
theorem d_Mo_use_158 : decode m_Mo_use.2.1 158 = .ok (.getfield 13, 3) := by decide +kernel
theorem d_Mo_use_161 : decode m_Mo_use.2.1 161 = .ok (.iload_n 2, 1) := by decide +kernel
theorem d_Mo_use_162 : decode m_Mo_use.2.1 162 = .ok (.iaload, 1) := by decide +kernel
theorem d_Mo_use_163 : decode m_Mo_use.2.1 163 = .ok (.ireturn, 1) := by decide +kernel
theorem d_Mo_isOffcut_0 : decode m_Mo_isOffcut.2.1 0 = .ok (.iload_n 1, 1) := by decide +kernel
theorem d_Mo_isOffcut_1 : decode m_Mo_isOffcut.2.1 1 = .ok (.ifCond .lt 15, 3) := by decide +kernel
theorem d_Mo_isOffcut_4 : decode m_Mo_isOffcut.2.1 4 = .ok (.iload_n 1, 1) := by decide +kernel
theorem d_Mo_isOffcut_5 : decode m_Mo_isOffcut.2.1 5 = .ok (.aload_n 0, 1) := by decide +kernel
theorem d_Mo_isOffcut_6 : decode m_Mo_isOffcut.2.1 6 = .ok (.getfield 263, 3) := by decide +kernel
theorem d_Mo_isOffcut_9 : decode m_Mo_isOffcut.2.1 9 = .ok (.if_icmp .ge 7, 3) := by decide +kernel
theorem d_Mo_isOffcut_12 : decode m_Mo_isOffcut.2.1 12 = .ok (.iconst 1, 1) := by decide +kernel
theorem d_Mo_isOffcut_13 : decode m_Mo_isOffcut.2.1 13 = .ok (.goto 4, 3) := by decide +kernel
theorem d_Mo_isOffcut_16 : decode m_Mo_isOffcut.2.1 16 = .ok (.iconst 0, 1) := by decide +kernel
theorem d_Mo_isOffcut_17 : decode m_Mo_isOffcut.2.1 17 = .ok (.ireturn, 1) := by decide +kernel
theorem d_Mo_moveOffcut_0 : decode m_Mo_moveOffcut.2.1 0 = .ok (.aload_n 0, 1) := by decide +kernel
theorem d_Mo_moveOffcut_1 : decode m_Mo_moveOffcut.2.1 1 = .ok (.getfield 83, 3) := by decide +kernel
theorem d_Mo_moveOffcut_4 : decode m_Mo_moveOffcut.2.1 4 = .ok (.iload_n 2, 1) := by decide +kernel
theorem d_Mo_moveOffcut_5 : decode m_Mo_moveOffcut.2.1 5 = .ok (.aload_n 0, 1) := by decide +kernel
theorem d_Mo_moveOffcut_6 : decode m_Mo_moveOffcut.2.1 6 = .ok (.getfield 83, 3) := by decide +kernel
theorem d_Mo_moveOffcut_9 : decode m_Mo_moveOffcut.2.1 9 = .ok (.iload_n 1, 1) := by decide +kernel
theorem d_Mo_moveOffcut_10 : decode m_Mo_moveOffcut.2.1 10 = .ok (.iaload, 1) := by decide +kernel
theorem d_Mo_moveOffcut_11 : decode m_Mo_moveOffcut.2.1 11 = .ok (.iastore, 1) := by decide +kernel
theorem d_Mo_moveOffcut_12 : decode m_Mo_moveOffcut.2.1 12 = .ok (.aload_n 0, 1) := by decide +kernel
theorem d_Mo_moveOffcut_13 : decode m_Mo_moveOffcut.2.1 13 = .ok (.getfield 86, 3) := by decide +kernel
theorem d_Mo_moveOffcut_16 : decode m_Mo_moveOffcut.2.1 16 = .ok (.iload_n 2, 1) := by decide +kernel
theorem d_Mo_moveOffcut_17 : decode m_Mo_moveOffcut.2.1 17 = .ok (.aload_n 0, 1) := by decide +kernel
theorem d_Mo_moveOffcut_18 : decode m_Mo_moveOffcut.2.1 18 = .ok (.getfield 86, 3) := by decide +kernel
theorem d_Mo_moveOffcut_21 : decode m_Mo_moveOffcut.2.1 21 = .ok (.iload_n 1, 1) := by decide +kernel
theorem d_Mo_moveOffcut_22 : decode m_Mo_moveOffcut.2.1 22 = .ok (.iaload, 1) := by decide +kernel
theorem d_Mo_moveOffcut_23 : decode m_Mo_moveOffcut.2.1 23 = .ok (.iastore, 1) := by decide +kernel
theorem d_Mo_moveOffcut_24 : decode m_Mo_moveOffcut.2.1 24 = .ok (.aload_n 0, 1) := by decide +kernel
theorem d_Mo_moveOffcut_25 : decode m_Mo_moveOffcut.2.1 25 = .ok (.getfield 89, 3) := by decide +kernel
theorem d_Mo_moveOffcut_28 : decode m_Mo_moveOffcut.2.1 28 = .ok (.iload_n 2, 1) := by decide +kernel
theorem d_Mo_moveOffcut_29 : decode m_Mo_moveOffcut.2.1 29 = .ok (.aload_n 0, 1) := by decide +kernel
theorem d_Mo_moveOffcut_30 : decode m_Mo_moveOffcut.2.1 30 = .ok (.getfield 89, 3) := by decide +kernel
theorem d_Mo_moveOffcut_33 : decode m_Mo_moveOffcut.2.1 33 = .ok (.iload_n 1, 1) := by decide +kernel
theorem d_Mo_moveOffcut_34 : decode m_Mo_moveOffcut.2.1 34 = .ok (.iaload, 1) := by decide +kernel
theorem d_Mo_moveOffcut_35 : decode m_Mo_moveOffcut.2.1 35 = .ok (.iastore, 1) := by decide +kernel
theorem d_Mo_moveOffcut_36 : decode m_Mo_moveOffcut.2.1 36 = .ok (.iconst 0, 1) := by decide +kernel
theorem d_Mo_moveOffcut_37 : decode m_Mo_moveOffcut.2.1 37 = .ok (.istore_n 3, 1) := by decide +kernel
theorem d_Mo_moveOffcut_38 : decode m_Mo_moveOffcut.2.1 38 = .ok (.iload_n 3, 1) := by decide +kernel
theorem d_Mo_moveOffcut_39 : decode m_Mo_moveOffcut.2.1 39 = .ok (.bipush 24, 2) := by decide +kernel
theorem d_Mo_moveOffcut_41 : decode m_Mo_moveOffcut.2.1 41 = .ok (.if_icmp .ge 31, 3) := by decide +kernel
theorem d_Mo_moveOffcut_44 : decode m_Mo_moveOffcut.2.1 44 = .ok (.aload_n 0, 1) := by decide +kernel
theorem d_Mo_moveOffcut_45 : decode m_Mo_moveOffcut.2.1 45 = .ok (.getfield 92, 3) := by decide +kernel
theorem d_Mo_moveOffcut_48 : decode m_Mo_moveOffcut.2.1 48 = .ok (.bipush 24, 2) := by decide +kernel
theorem d_Mo_moveOffcut_50 : decode m_Mo_moveOffcut.2.1 50 = .ok (.iload_n 2, 1) := by decide +kernel
theorem d_Mo_moveOffcut_51 : decode m_Mo_moveOffcut.2.1 51 = .ok (.imul, 1) := by decide +kernel
theorem d_Mo_moveOffcut_52 : decode m_Mo_moveOffcut.2.1 52 = .ok (.iload_n 3, 1) := by decide +kernel
theorem d_Mo_moveOffcut_53 : decode m_Mo_moveOffcut.2.1 53 = .ok (.iadd, 1) := by decide +kernel
theorem d_Mo_moveOffcut_54 : decode m_Mo_moveOffcut.2.1 54 = .ok (.aload_n 0, 1) := by decide +kernel
theorem d_Mo_moveOffcut_55 : decode m_Mo_moveOffcut.2.1 55 = .ok (.getfield 92, 3) := by decide +kernel
theorem d_Mo_moveOffcut_58 : decode m_Mo_moveOffcut.2.1 58 = .ok (.bipush 24, 2) := by decide +kernel
theorem d_Mo_moveOffcut_60 : decode m_Mo_moveOffcut.2.1 60 = .ok (.iload_n 1, 1) := by decide +kernel
theorem d_Mo_moveOffcut_61 : decode m_Mo_moveOffcut.2.1 61 = .ok (.imul, 1) := by decide +kernel
theorem d_Mo_moveOffcut_62 : decode m_Mo_moveOffcut.2.1 62 = .ok (.iload_n 3, 1) := by decide +kernel
theorem d_Mo_moveOffcut_63 : decode m_Mo_moveOffcut.2.1 63 = .ok (.iadd, 1) := by decide +kernel
theorem d_Mo_moveOffcut_64 : decode m_Mo_moveOffcut.2.1 64 = .ok (.iaload, 1) := by decide +kernel
theorem d_Mo_moveOffcut_65 : decode m_Mo_moveOffcut.2.1 65 = .ok (.iastore, 1) := by decide +kernel
theorem d_Mo_moveOffcut_66 : decode m_Mo_moveOffcut.2.1 66 = .ok (.iinc 3 1, 3) := by decide +kernel
theorem d_Mo_moveOffcut_69 : decode m_Mo_moveOffcut.2.1 69 = .ok (.goto (-31), 3) := by decide +kernel
theorem d_Mo_moveOffcut_72 : decode m_Mo_moveOffcut.2.1 72 = .ok (.return_, 1) := by decide +kernel
theorem d_Mo_rack_0 : decode m_Mo_rack.2.1 0 = .ok (.aload_n 0, 1) := by decide +kernel
theorem d_Mo_rack_1 : decode m_Mo_rack.2.1 1 = .ok (.aload_n 0, 1) := by decide +kernel
theorem d_Mo_rack_2 : decode m_Mo_rack.2.1 2 = .ok (.iload_n 1, 1) := by decide +kernel
theorem d_Mo_rack_3 : decode m_Mo_rack.2.1 3 = .ok (.invokevirtual 285, 3) := by decide +kernel
theorem d_Mo_rack_6 : decode m_Mo_rack.2.1 6 = .ok (.ifCond .ne 7, 3) := by decide +kernel
theorem d_Mo_rack_9 : decode m_Mo_rack.2.1 9 = .ok (.iconst 1, 1) := by decide +kernel
theorem d_Mo_rack_10 : decode m_Mo_rack.2.1 10 = .ok (.goto 17, 3) := by decide +kernel
theorem d_Mo_rack_13 : decode m_Mo_rack.2.1 13 = .ok (.iload_n 2, 1) := by decide +kernel
theorem d_Mo_rack_14 : decode m_Mo_rack.2.1 14 = .ok (.ifCond .lt 8, 3) := by decide +kernel
theorem d_Mo_rack_17 : decode m_Mo_rack.2.1 17 = .ok (.iload_n 2, 1) := by decide +kernel
theorem d_Mo_rack_18 : decode m_Mo_rack.2.1 18 = .ok (.iconst 2, 1) := by decide +kernel
theorem d_Mo_rack_19 : decode m_Mo_rack.2.1 19 = .ok (.if_icmp .le 7, 3) := by decide +kernel
theorem d_Mo_rack_22 : decode m_Mo_rack.2.1 22 = .ok (.iconst 2, 1) := by decide +kernel
theorem d_Mo_rack_23 : decode m_Mo_rack.2.1 23 = .ok (.goto 4, 3) := by decide +kernel
theorem d_Mo_rack_26 : decode m_Mo_rack.2.1 26 = .ok (.iconst 0, 1) := by decide +kernel
theorem d_Mo_rack_27 : decode m_Mo_rack.2.1 27 = .ok (.putfield 140, 3) := by decide +kernel
theorem d_Mo_rack_30 : decode m_Mo_rack.2.1 30 = .ok (.aload_n 0, 1) := by decide +kernel
theorem d_Mo_rack_31 : decode m_Mo_rack.2.1 31 = .ok (.getfield 140, 3) := by decide +kernel
theorem d_Mo_rack_34 : decode m_Mo_rack.2.1 34 = .ok (.ifCond .le 5, 3) := by decide +kernel
theorem d_Mo_rack_37 : decode m_Mo_rack.2.1 37 = .ok (.iconst 0, 1) := by decide +kernel
theorem d_Mo_rack_38 : decode m_Mo_rack.2.1 38 = .ok (.ireturn, 1) := by decide +kernel
theorem d_Mo_rack_39 : decode m_Mo_rack.2.1 39 = .ok (.iload_n 2, 1) := by decide +kernel
theorem d_Mo_rack_40 : decode m_Mo_rack.2.1 40 = .ok (.ifCond .ne 12, 3) := by decide +kernel
theorem d_Mo_rack_43 : decode m_Mo_rack.2.1 43 = .ok (.aload_n 0, 1) := by decide +kernel
theorem d_Mo_rack_44 : decode m_Mo_rack.2.1 44 = .ok (.getfield 83, 3) := by decide +kernel
theorem d_Mo_rack_47 : decode m_Mo_rack.2.1 47 = .ok (.iload_n 1, 1) := by decide +kernel
theorem d_Mo_rack_48 : decode m_Mo_rack.2.1 48 = .ok (.iaload, 1) := by decide +kernel
theorem d_Mo_rack_49 : decode m_Mo_rack.2.1 49 = .ok (.goto 23, 3) := by decide +kernel
theorem d_Mo_rack_52 : decode m_Mo_rack.2.1 52 = .ok (.iload_n 2, 1) := by decide +kernel
theorem d_Mo_rack_53 : decode m_Mo_rack.2.1 53 = .ok (.iconst 1, 1) := by decide +kernel
theorem d_Mo_rack_54 : decode m_Mo_rack.2.1 54 = .ok (.if_icmp .ne 12, 3) := by decide +kernel
theorem d_Mo_rack_57 : decode m_Mo_rack.2.1 57 = .ok (.aload_n 0, 1) := by decide +kernel
theorem d_Mo_rack_58 : decode m_Mo_rack.2.1 58 = .ok (.getfield 86, 3) := by decide +kernel
theorem d_Mo_rack_61 : decode m_Mo_rack.2.1 61 = .ok (.iload_n 1, 1) := by decide +kernel
theorem d_Mo_rack_62 : decode m_Mo_rack.2.1 62 = .ok (.iaload, 1) := by decide +kernel
theorem d_Mo_rack_63 : decode m_Mo_rack.2.1 63 = .ok (.goto 9, 3) := by decide +kernel
theorem d_Mo_rack_66 : decode m_Mo_rack.2.1 66 = .ok (.aload_n 0, 1) := by decide +kernel
theorem d_Mo_rack_67 : decode m_Mo_rack.2.1 67 = .ok (.getfield 89, 3) := by decide +kernel
theorem d_Mo_rack_70 : decode m_Mo_rack.2.1 70 = .ok (.iload_n 1, 1) := by decide +kernel
theorem d_Mo_rack_71 : decode m_Mo_rack.2.1 71 = .ok (.iaload, 1) := by decide +kernel
theorem d_Mo_rack_72 : decode m_Mo_rack.2.1 72 = .ok (.ireturn, 1) := by decide +kernel
theorem d_Mo_fit_0 : decode m_Mo_fit.2.1 0 = .ok (.aload_n 0, 1) := by decide +kernel
theorem d_Mo_fit_1 : decode m_Mo_fit.2.1 1 = .ok (.iconst 0, 1) := by decide +kernel
theorem d_Mo_fit_2 : decode m_Mo_fit.2.1 2 = .ok (.putfield 140, 3) := by decide +kernel
theorem d_Mo_fit_5 : decode m_Mo_fit.2.1 5 = .ok (.iconst (-1), 1) := by decide +kernel
theorem d_Mo_fit_6 : decode m_Mo_fit.2.1 6 = .ok (.istore_n 3, 1) := by decide +kernel
theorem d_Mo_fit_7 : decode m_Mo_fit.2.1 7 = .ok (.aload_n 0, 1) := by decide +kernel
theorem d_Mo_fit_8 : decode m_Mo_fit.2.1 8 = .ok (.getfield 263, 3) := by decide +kernel
theorem d_Mo_fit_11 : decode m_Mo_fit.2.1 11 = .ok (.iconst 1, 1) := by decide +kernel
theorem d_Mo_fit_12 : decode m_Mo_fit.2.1 12 = .ok (.isub, 1) := by decide +kernel
theorem d_Mo_fit_13 : decode m_Mo_fit.2.1 13 = .ok (.istore 4, 2) := by decide +kernel
theorem d_Mo_fit_15 : decode m_Mo_fit.2.1 15 = .ok (.iload 4, 2) := by decide +kernel
theorem d_Mo_fit_17 : decode m_Mo_fit.2.1 17 = .ok (.ifCond .lt 137, 3) := by decide +kernel
theorem d_Mo_fit_20 : decode m_Mo_fit.2.1 20 = .ok (.aload_n 0, 1) := by decide +kernel
theorem d_Mo_fit_21 : decode m_Mo_fit.2.1 21 = .ok (.getfield 83, 3) := by decide +kernel
theorem d_Mo_fit_24 : decode m_Mo_fit.2.1 24 = .ok (.iload 4, 2) := by decide +kernel
theorem d_Mo_fit_26 : decode m_Mo_fit.2.1 26 = .ok (.iaload, 1) := by decide +kernel
theorem d_Mo_fit_27 : decode m_Mo_fit.2.1 27 = .ok (.iload_n 1, 1) := by decide +kernel
theorem d_Mo_fit_28 : decode m_Mo_fit.2.1 28 = .ok (.if_icmp .lt 14, 3) := by decide +kernel
theorem d_Mo_fit_31 : decode m_Mo_fit.2.1 31 = .ok (.aload_n 0, 1) := by decide +kernel
theorem d_Mo_fit_32 : decode m_Mo_fit.2.1 32 = .ok (.getfield 86, 3) := by decide +kernel
theorem d_Mo_fit_35 : decode m_Mo_fit.2.1 35 = .ok (.iload 4, 2) := by decide +kernel
theorem d_Mo_fit_37 : decode m_Mo_fit.2.1 37 = .ok (.iaload, 1) := by decide +kernel
theorem d_Mo_fit_38 : decode m_Mo_fit.2.1 38 = .ok (.iload_n 2, 1) := by decide +kernel
theorem d_Mo_fit_39 : decode m_Mo_fit.2.1 39 = .ok (.if_icmp .ge 25, 3) := by decide +kernel
theorem d_Mo_fit_42 : decode m_Mo_fit.2.1 42 = .ok (.aload_n 0, 1) := by decide +kernel
theorem d_Mo_fit_43 : decode m_Mo_fit.2.1 43 = .ok (.getfield 83, 3) := by decide +kernel
theorem d_Mo_fit_46 : decode m_Mo_fit.2.1 46 = .ok (.iload 4, 2) := by decide +kernel
theorem d_Mo_fit_48 : decode m_Mo_fit.2.1 48 = .ok (.iaload, 1) := by decide +kernel
theorem d_Mo_fit_49 : decode m_Mo_fit.2.1 49 = .ok (.iload_n 2, 1) := by decide +kernel
theorem d_Mo_fit_50 : decode m_Mo_fit.2.1 50 = .ok (.if_icmp .lt 18, 3) := by decide +kernel
theorem d_Mo_fit_53 : decode m_Mo_fit.2.1 53 = .ok (.aload_n 0, 1) := by decide +kernel
theorem d_Mo_fit_54 : decode m_Mo_fit.2.1 54 = .ok (.getfield 86, 3) := by decide +kernel
theorem d_Mo_fit_57 : decode m_Mo_fit.2.1 57 = .ok (.iload 4, 2) := by decide +kernel
theorem d_Mo_fit_59 : decode m_Mo_fit.2.1 59 = .ok (.iaload, 1) := by decide +kernel
theorem d_Mo_fit_60 : decode m_Mo_fit.2.1 60 = .ok (.iload_n 1, 1) := by decide +kernel
theorem d_Mo_fit_61 : decode m_Mo_fit.2.1 61 = .ok (.if_icmp .lt 7, 3) := by decide +kernel
theorem d_Mo_fit_64 : decode m_Mo_fit.2.1 64 = .ok (.iconst 1, 1) := by decide +kernel
theorem d_Mo_fit_65 : decode m_Mo_fit.2.1 65 = .ok (.goto 4, 3) := by decide +kernel
theorem d_Mo_fit_68 : decode m_Mo_fit.2.1 68 = .ok (.iconst 0, 1) := by decide +kernel
end
section
theorem d_Mo_fit_69 : decode m_Mo_fit.2.1 69 = .ok (.istore 5, 2) := by decide +kernel
theorem d_Mo_fit_71 : decode m_Mo_fit.2.1 71 = .ok (.iload_n 3, 1) := by decide +kernel
theorem d_Mo_fit_72 : decode m_Mo_fit.2.1 72 = .ok (.ifCond .lt 52, 3) := by decide +kernel
theorem d_Mo_fit_75 : decode m_Mo_fit.2.1 75 = .ok (.aload_n 0, 1) := by decide +kernel
theorem d_Mo_fit_76 : decode m_Mo_fit.2.1 76 = .ok (.getfield 83, 3) := by decide +kernel
theorem d_Mo_fit_79 : decode m_Mo_fit.2.1 79 = .ok (.iload 4, 2) := by decide +kernel
theorem d_Mo_fit_81 : decode m_Mo_fit.2.1 81 = .ok (.iaload, 1) := by decide +kernel
theorem d_Mo_fit_82 : decode m_Mo_fit.2.1 82 = .ok (.aload_n 0, 1) := by decide +kernel
theorem d_Mo_fit_83 : decode m_Mo_fit.2.1 83 = .ok (.getfield 86, 3) := by decide +kernel
theorem d_Mo_fit_86 : decode m_Mo_fit.2.1 86 = .ok (.iload 4, 2) := by decide +kernel
theorem d_Mo_fit_88 : decode m_Mo_fit.2.1 88 = .ok (.iaload, 1) := by decide +kernel
theorem d_Mo_fit_89 : decode m_Mo_fit.2.1 89 = .ok (.imul, 1) := by decide +kernel
theorem d_Mo_fit_90 : decode m_Mo_fit.2.1 90 = .ok (.aload_n 0, 1) := by decide +kernel
theorem d_Mo_fit_91 : decode m_Mo_fit.2.1 91 = .ok (.getfield 83, 3) := by decide +kernel
theorem d_Mo_fit_94 : decode m_Mo_fit.2.1 94 = .ok (.iload_n 3, 1) := by decide +kernel
theorem d_Mo_fit_95 : decode m_Mo_fit.2.1 95 = .ok (.ifCond .ge 8, 3) := by decide +kernel
theorem d_Mo_fit_98 : decode m_Mo_fit.2.1 98 = .ok (.iload 4, 2) := by decide +kernel
theorem d_Mo_fit_100 : decode m_Mo_fit.2.1 100 = .ok (.goto 4, 3) := by decide +kernel
theorem d_Mo_fit_103 : decode m_Mo_fit.2.1 103 = .ok (.iload_n 3, 1) := by decide +kernel
theorem d_Mo_fit_104 : decode m_Mo_fit.2.1 104 = .ok (.iaload, 1) := by decide +kernel
theorem d_Mo_fit_105 : decode m_Mo_fit.2.1 105 = .ok (.aload_n 0, 1) := by decide +kernel
theorem d_Mo_fit_106 : decode m_Mo_fit.2.1 106 = .ok (.getfield 86, 3) := by decide +kernel
theorem d_Mo_fit_109 : decode m_Mo_fit.2.1 109 = .ok (.iload_n 3, 1) := by decide +kernel
theorem d_Mo_fit_110 : decode m_Mo_fit.2.1 110 = .ok (.ifCond .ge 8, 3) := by decide +kernel
theorem d_Mo_fit_113 : decode m_Mo_fit.2.1 113 = .ok (.iload 4, 2) := by decide +kernel
theorem d_Mo_fit_115 : decode m_Mo_fit.2.1 115 = .ok (.goto 4, 3) := by decide +kernel
theorem d_Mo_fit_118 : decode m_Mo_fit.2.1 118 = .ok (.iload_n 3, 1) := by decide +kernel
theorem d_Mo_fit_119 : decode m_Mo_fit.2.1 119 = .ok (.iaload, 1) := by decide +kernel
theorem d_Mo_fit_120 : decode m_Mo_fit.2.1 120 = .ok (.imul, 1) := by decide +kernel
theorem d_Mo_fit_121 : decode m_Mo_fit.2.1 121 = .ok (.if_icmp .gt 7, 3) := by decide +kernel
theorem d_Mo_fit_124 : decode m_Mo_fit.2.1 124 = .ok (.iconst 1, 1) := by decide +kernel
theorem d_Mo_fit_125 : decode m_Mo_fit.2.1 125 = .ok (.goto 4, 3) := by decide +kernel
theorem d_Mo_fit_128 : decode m_Mo_fit.2.1 128 = .ok (.iconst 0, 1) := by decide +kernel
theorem d_Mo_fit_129 : decode m_Mo_fit.2.1 129 = .ok (.istore 6, 2) := by decide +kernel
theorem d_Mo_fit_131 : decode m_Mo_fit.2.1 131 = .ok (.iload 5, 2) := by decide +kernel
theorem d_Mo_fit_133 : decode m_Mo_fit.2.1 133 = .ok (.ifCond .eq 13, 3) := by decide +kernel
theorem d_Mo_fit_136 : decode m_Mo_fit.2.1 136 = .ok (.iload 6, 2) := by decide +kernel
theorem d_Mo_fit_138 : decode m_Mo_fit.2.1 138 = .ok (.ifCond .eq 8, 3) := by decide +kernel
theorem d_Mo_fit_141 : decode m_Mo_fit.2.1 141 = .ok (.iload 4, 2) := by decide +kernel
theorem d_Mo_fit_143 : decode m_Mo_fit.2.1 143 = .ok (.goto 4, 3) := by decide +kernel
theorem d_Mo_fit_146 : decode m_Mo_fit.2.1 146 = .ok (.iload_n 3, 1) := by decide +kernel
theorem d_Mo_fit_147 : decode m_Mo_fit.2.1 147 = .ok (.istore_n 3, 1) := by decide +kernel
theorem d_Mo_fit_148 : decode m_Mo_fit.2.1 148 = .ok (.iinc 4 (-1), 3) := by decide +kernel
theorem d_Mo_fit_151 : decode m_Mo_fit.2.1 151 = .ok (.goto (-136), 3) := by decide +kernel
theorem d_Mo_fit_154 : decode m_Mo_fit.2.1 154 = .ok (.iload_n 3, 1) := by decide +kernel
theorem d_Mo_fit_155 : decode m_Mo_fit.2.1 155 = .ok (.ireturn, 1) := by decide +kernel
theorem d_Mo_flawed_0 : decode m_Mo_flawed.2.1 0 = .ok (.aload_n 0, 1) := by decide +kernel
theorem d_Mo_flawed_1 : decode m_Mo_flawed.2.1 1 = .ok (.iload_n 1, 1) := by decide +kernel
theorem d_Mo_flawed_2 : decode m_Mo_flawed.2.1 2 = .ok (.invokevirtual 166, 3) := by decide +kernel
theorem d_Mo_flawed_5 : decode m_Mo_flawed.2.1 5 = .ok (.istore 4, 2) := by decide +kernel
theorem d_Mo_flawed_7 : decode m_Mo_flawed.2.1 7 = .ok (.aload_n 0, 1) := by decide +kernel
theorem d_Mo_flawed_8 : decode m_Mo_flawed.2.1 8 = .ok (.iload 4, 2) := by decide +kernel
theorem d_Mo_flawed_10 : decode m_Mo_flawed.2.1 10 = .ok (.ifCond .ge 7, 3) := by decide +kernel
theorem d_Mo_flawed_13 : decode m_Mo_flawed.2.1 13 = .ok (.iconst 1, 1) := by decide +kernel
theorem d_Mo_flawed_14 : decode m_Mo_flawed.2.1 14 = .ok (.goto 36, 3) := by decide +kernel
theorem d_Mo_flawed_17 : decode m_Mo_flawed.2.1 17 = .ok (.iload_n 2, 1) := by decide +kernel
theorem d_Mo_flawed_18 : decode m_Mo_flawed.2.1 18 = .ok (.ifCond .lt 14, 3) := by decide +kernel
theorem d_Mo_flawed_21 : decode m_Mo_flawed.2.1 21 = .ok (.iload_n 2, 1) := by decide +kernel
theorem d_Mo_flawed_22 : decode m_Mo_flawed.2.1 22 = .ok (.aload_n 0, 1) := by decide +kernel
theorem d_Mo_flawed_23 : decode m_Mo_flawed.2.1 23 = .ok (.getfield 29, 3) := by decide +kernel
theorem d_Mo_flawed_26 : decode m_Mo_flawed.2.1 26 = .ok (.iload 4, 2) := by decide +kernel
theorem d_Mo_flawed_28 : decode m_Mo_flawed.2.1 28 = .ok (.iaload, 1) := by decide +kernel
theorem d_Mo_flawed_29 : decode m_Mo_flawed.2.1 29 = .ok (.if_icmp .lt 7, 3) := by decide +kernel
theorem d_Mo_flawed_32 : decode m_Mo_flawed.2.1 32 = .ok (.iconst 2, 1) := by decide +kernel
theorem d_Mo_flawed_33 : decode m_Mo_flawed.2.1 33 = .ok (.goto 17, 3) := by decide +kernel
theorem d_Mo_flawed_36 : decode m_Mo_flawed.2.1 36 = .ok (.iload_n 3, 1) := by decide +kernel
theorem d_Mo_flawed_37 : decode m_Mo_flawed.2.1 37 = .ok (.ifCond .lt 8, 3) := by decide +kernel
theorem d_Mo_flawed_40 : decode m_Mo_flawed.2.1 40 = .ok (.iload_n 3, 1) := by decide +kernel
theorem d_Mo_flawed_41 : decode m_Mo_flawed.2.1 41 = .ok (.iconst 3, 1) := by decide +kernel
theorem d_Mo_flawed_42 : decode m_Mo_flawed.2.1 42 = .ok (.if_icmp .le 7, 3) := by decide +kernel
theorem d_Mo_flawed_45 : decode m_Mo_flawed.2.1 45 = .ok (.iconst 3, 1) := by decide +kernel
theorem d_Mo_flawed_46 : decode m_Mo_flawed.2.1 46 = .ok (.goto 4, 3) := by decide +kernel
theorem d_Mo_flawed_49 : decode m_Mo_flawed.2.1 49 = .ok (.iconst 0, 1) := by decide +kernel
theorem d_Mo_flawed_50 : decode m_Mo_flawed.2.1 50 = .ok (.putfield 140, 3) := by decide +kernel
theorem d_Mo_flawed_53 : decode m_Mo_flawed.2.1 53 = .ok (.aload_n 0, 1) := by decide +kernel
theorem d_Mo_flawed_54 : decode m_Mo_flawed.2.1 54 = .ok (.getfield 140, 3) := by decide +kernel
theorem d_Mo_flawed_57 : decode m_Mo_flawed.2.1 57 = .ok (.ifCond .le 7, 3) := by decide +kernel
theorem d_Mo_flawed_60 : decode m_Mo_flawed.2.1 60 = .ok (.iconst 0, 1) := by decide +kernel
theorem d_Mo_flawed_61 : decode m_Mo_flawed.2.1 61 = .ok (.goto 19, 3) := by decide +kernel
theorem d_Mo_flawed_64 : decode m_Mo_flawed.2.1 64 = .ok (.aload_n 0, 1) := by decide +kernel
theorem d_Mo_flawed_65 : decode m_Mo_flawed.2.1 65 = .ok (.getfield 32, 3) := by decide +kernel
theorem d_Mo_flawed_68 : decode m_Mo_flawed.2.1 68 = .ok (.bipush 24, 2) := by decide +kernel
theorem d_Mo_flawed_70 : decode m_Mo_flawed.2.1 70 = .ok (.iload 4, 2) := by decide +kernel
theorem d_Mo_flawed_72 : decode m_Mo_flawed.2.1 72 = .ok (.imul, 1) := by decide +kernel
theorem d_Mo_flawed_73 : decode m_Mo_flawed.2.1 73 = .ok (.iconst 4, 1) := by decide +kernel
theorem d_Mo_flawed_74 : decode m_Mo_flawed.2.1 74 = .ok (.iload_n 2, 1) := by decide +kernel
theorem d_Mo_flawed_75 : decode m_Mo_flawed.2.1 75 = .ok (.imul, 1) := by decide +kernel
theorem d_Mo_flawed_76 : decode m_Mo_flawed.2.1 76 = .ok (.iadd, 1) := by decide +kernel
theorem d_Mo_flawed_77 : decode m_Mo_flawed.2.1 77 = .ok (.iload_n 3, 1) := by decide +kernel
theorem d_Mo_flawed_78 : decode m_Mo_flawed.2.1 78 = .ok (.iadd, 1) := by decide +kernel
theorem d_Mo_flawed_79 : decode m_Mo_flawed.2.1 79 = .ok (.iaload, 1) := by decide +kernel
theorem d_Mo_flawed_80 : decode m_Mo_flawed.2.1 80 = .ok (.ireturn, 1) := by decide +kernel
theorem d_Mo_panes_0 : decode m_Mo_panes.2.1 0 = .ok (.aload_n 0, 1) := by decide +kernel
theorem d_Mo_panes_1 : decode m_Mo_panes.2.1 1 = .ok (.aload_n 0, 1) := by decide +kernel
theorem d_Mo_panes_2 : decode m_Mo_panes.2.1 2 = .ok (.iload_n 1, 1) := by decide +kernel
theorem d_Mo_panes_3 : decode m_Mo_panes.2.1 3 = .ok (.invokevirtual 253, 3) := by decide +kernel
theorem d_Mo_panes_6 : decode m_Mo_panes.2.1 6 = .ok (.ifCond .ne 7, 3) := by decide +kernel
theorem d_Mo_panes_9 : decode m_Mo_panes.2.1 9 = .ok (.iconst 1, 1) := by decide +kernel
theorem d_Mo_panes_10 : decode m_Mo_panes.2.1 10 = .ok (.goto 17, 3) := by decide +kernel
theorem d_Mo_panes_13 : decode m_Mo_panes.2.1 13 = .ok (.iload_n 2, 1) := by decide +kernel
theorem d_Mo_panes_14 : decode m_Mo_panes.2.1 14 = .ok (.ifCond .lt 8, 3) := by decide +kernel
theorem d_Mo_panes_17 : decode m_Mo_panes.2.1 17 = .ok (.iload_n 2, 1) := by decide +kernel
theorem d_Mo_panes_18 : decode m_Mo_panes.2.1 18 = .ok (.iconst 2, 1) := by decide +kernel
theorem d_Mo_panes_19 : decode m_Mo_panes.2.1 19 = .ok (.if_icmp .le 7, 3) := by decide +kernel
theorem d_Mo_panes_22 : decode m_Mo_panes.2.1 22 = .ok (.iconst 2, 1) := by decide +kernel
theorem d_Mo_panes_23 : decode m_Mo_panes.2.1 23 = .ok (.goto 4, 3) := by decide +kernel
theorem d_Mo_panes_26 : decode m_Mo_panes.2.1 26 = .ok (.iconst 0, 1) := by decide +kernel
theorem d_Mo_panes_27 : decode m_Mo_panes.2.1 27 = .ok (.putfield 140, 3) := by decide +kernel
theorem d_Mo_panes_30 : decode m_Mo_panes.2.1 30 = .ok (.aload_n 0, 1) := by decide +kernel
theorem d_Mo_panes_31 : decode m_Mo_panes.2.1 31 = .ok (.getfield 140, 3) := by decide +kernel
theorem d_Mo_panes_34 : decode m_Mo_panes.2.1 34 = .ok (.ifCond .le 5, 3) := by decide +kernel
theorem d_Mo_panes_37 : decode m_Mo_panes.2.1 37 = .ok (.iconst 0, 1) := by decide +kernel
theorem d_Mo_panes_38 : decode m_Mo_panes.2.1 38 = .ok (.ireturn, 1) := by decide +kernel
theorem d_Mo_panes_39 : decode m_Mo_panes.2.1 39 = .ok (.iload_n 2, 1) := by decide +kernel
theorem d_Mo_panes_40 : decode m_Mo_panes.2.1 40 = .ok (.ifCond .ne 12, 3) := by decide +kernel
theorem d_Mo_panes_43 : decode m_Mo_panes.2.1 43 = .ok (.aload_n 0, 1) := by decide +kernel
theorem d_Mo_panes_44 : decode m_Mo_panes.2.1 44 = .ok (.getfield 74, 3) := by decide +kernel
theorem d_Mo_panes_47 : decode m_Mo_panes.2.1 47 = .ok (.iload_n 1, 1) := by decide +kernel
theorem d_Mo_panes_48 : decode m_Mo_panes.2.1 48 = .ok (.iaload, 1) := by decide +kernel
theorem d_Mo_panes_49 : decode m_Mo_panes.2.1 49 = .ok (.goto 23, 3) := by decide +kernel
theorem d_Mo_panes_52 : decode m_Mo_panes.2.1 52 = .ok (.iload_n 2, 1) := by decide +kernel
theorem d_Mo_panes_53 : decode m_Mo_panes.2.1 53 = .ok (.iconst 1, 1) := by decide +kernel
theorem d_Mo_panes_54 : decode m_Mo_panes.2.1 54 = .ok (.if_icmp .ne 12, 3) := by decide +kernel
theorem d_Mo_panes_57 : decode m_Mo_panes.2.1 57 = .ok (.aload_n 0, 1) := by decide +kernel
theorem d_Mo_panes_58 : decode m_Mo_panes.2.1 58 = .ok (.getfield 77, 3) := by decide +kernel
theorem d_Mo_panes_61 : decode m_Mo_panes.2.1 61 = .ok (.iload_n 1, 1) := by decide +kernel
theorem d_Mo_panes_62 : decode m_Mo_panes.2.1 62 = .ok (.iaload, 1) := by decide +kernel
theorem d_Mo_panes_63 : decode m_Mo_panes.2.1 63 = .ok (.goto 9, 3) := by decide +kernel
theorem d_Mo_panes_66 : decode m_Mo_panes.2.1 66 = .ok (.aload_n 0, 1) := by decide +kernel
theorem d_Mo_panes_67 : decode m_Mo_panes.2.1 67 = .ok (.getfield 80, 3) := by decide +kernel
theorem d_Mo_panes_70 : decode m_Mo_panes.2.1 70 = .ok (.iload_n 1, 1) := by decide +kernel
theorem d_Mo_panes_71 : decode m_Mo_panes.2.1 71 = .ok (.iaload, 1) := by decide +kernel
theorem d_Mo_panes_72 : decode m_Mo_panes.2.1 72 = .ok (.ireturn, 1) := by decide +kernel
theorem d_Mo_area_0 : decode m_Mo_area.2.1 0 = .ok (.aload_n 0, 1) := by decide +kernel
theorem d_Mo_area_1 : decode m_Mo_area.2.1 1 = .ok (.iconst 0, 1) := by decide +kernel
theorem d_Mo_area_2 : decode m_Mo_area.2.1 2 = .ok (.putfield 140, 3) := by decide +kernel
theorem d_Mo_area_5 : decode m_Mo_area.2.1 5 = .ok (.lconst 0, 1) := by decide +kernel
theorem d_Mo_area_6 : decode m_Mo_area.2.1 6 = .ok (.lstore_n 2, 1) := by decide +kernel
theorem d_Mo_area_7 : decode m_Mo_area.2.1 7 = .ok (.lconst 0, 1) := by decide +kernel
theorem d_Mo_area_8 : decode m_Mo_area.2.1 8 = .ok (.lstore 4, 2) := by decide +kernel
theorem d_Mo_area_10 : decode m_Mo_area.2.1 10 = .ok (.iconst 0, 1) := by decide +kernel
theorem d_Mo_area_11 : decode m_Mo_area.2.1 11 = .ok (.istore 6, 2) := by decide +kernel
theorem d_Mo_area_13 : decode m_Mo_area.2.1 13 = .ok (.iload 6, 2) := by decide +kernel
theorem d_Mo_area_15 : decode m_Mo_area.2.1 15 = .ok (.bipush 8, 2) := by decide +kernel
theorem d_Mo_area_17 : decode m_Mo_area.2.1 17 = .ok (.if_icmp .ge 142, 3) := by decide +kernel
theorem d_Mo_area_20 : decode m_Mo_area.2.1 20 = .ok (.lload_n 2, 1) := by decide +kernel
theorem d_Mo_area_21 : decode m_Mo_area.2.1 21 = .ok (.aload_n 0, 1) := by decide +kernel
theorem d_Mo_area_22 : decode m_Mo_area.2.1 22 = .ok (.getfield 7, 3) := by decide +kernel
theorem d_Mo_area_25 : decode m_Mo_area.2.1 25 = .ok (.iload 6, 2) := by decide +kernel
theorem d_Mo_area_27 : decode m_Mo_area.2.1 27 = .ok (.baload, 1) := by decide +kernel
theorem d_Mo_area_28 : decode m_Mo_area.2.1 28 = .ok (.ifCond .eq 33, 3) := by decide +kernel
theorem d_Mo_area_31 : decode m_Mo_area.2.1 31 = .ok (.aload_n 0, 1) := by decide +kernel
theorem d_Mo_area_32 : decode m_Mo_area.2.1 32 = .ok (.getfield 23, 3) := by decide +kernel
theorem d_Mo_area_35 : decode m_Mo_area.2.1 35 = .ok (.iload 6, 2) := by decide +kernel
theorem d_Mo_area_37 : decode m_Mo_area.2.1 37 = .ok (.baload, 1) := by decide +kernel
theorem d_Mo_area_38 : decode m_Mo_area.2.1 38 = .ok (.ifCond .ne 23, 3) := by decide +kernel
theorem d_Mo_area_41 : decode m_Mo_area.2.1 41 = .ok (.aload_n 0, 1) := by decide +kernel
theorem d_Mo_area_42 : decode m_Mo_area.2.1 42 = .ok (.getfield 17, 3) := by decide +kernel
theorem d_Mo_area_45 : decode m_Mo_area.2.1 45 = .ok (.iload 6, 2) := by decide +kernel
theorem d_Mo_area_47 : decode m_Mo_area.2.1 47 = .ok (.iaload, 1) := by decide +kernel
theorem d_Mo_area_48 : decode m_Mo_area.2.1 48 = .ok (.i2l, 1) := by decide +kernel
theorem d_Mo_area_49 : decode m_Mo_area.2.1 49 = .ok (.aload_n 0, 1) := by decide +kernel
theorem d_Mo_area_50 : decode m_Mo_area.2.1 50 = .ok (.getfield 20, 3) := by decide +kernel
theorem d_Mo_area_53 : decode m_Mo_area.2.1 53 = .ok (.iload 6, 2) := by decide +kernel
theorem d_Mo_area_55 : decode m_Mo_area.2.1 55 = .ok (.iaload, 1) := by decide +kernel
theorem d_Mo_area_56 : decode m_Mo_area.2.1 56 = .ok (.i2l, 1) := by decide +kernel
theorem d_Mo_area_57 : decode m_Mo_area.2.1 57 = .ok (.lmul, 1) := by decide +kernel
theorem d_Mo_area_58 : decode m_Mo_area.2.1 58 = .ok (.goto 4, 3) := by decide +kernel
theorem d_Mo_area_61 : decode m_Mo_area.2.1 61 = .ok (.lconst 0, 1) := by decide +kernel
theorem d_Mo_area_62 : decode m_Mo_area.2.1 62 = .ok (.ladd, 1) := by decide +kernel
theorem d_Mo_area_63 : decode m_Mo_area.2.1 63 = .ok (.lstore_n 2, 1) := by decide +kernel
theorem d_Mo_area_64 : decode m_Mo_area.2.1 64 = .ok (.iconst 0, 1) := by decide +kernel
theorem d_Mo_area_65 : decode m_Mo_area.2.1 65 = .ok (.istore 7, 2) := by decide +kernel
theorem d_Mo_area_67 : decode m_Mo_area.2.1 67 = .ok (.iload 7, 2) := by decide +kernel
theorem d_Mo_area_69 : decode m_Mo_area.2.1 69 = .ok (.aload_n 0, 1) := by decide +kernel
theorem d_Mo_area_70 : decode m_Mo_area.2.1 70 = .ok (.getfield 35, 3) := by decide +kernel
theorem d_Mo_area_73 : decode m_Mo_area.2.1 73 = .ok (.iload 6, 2) := by decide +kernel
theorem d_Mo_area_75 : decode m_Mo_area.2.1 75 = .ok (.iaload, 1) := by decide +kernel
theorem d_Mo_area_76 : decode m_Mo_area.2.1 76 = .ok (.if_icmp .ge 77, 3) := by decide +kernel
theorem d_Mo_area_79 : decode m_Mo_area.2.1 79 = .ok (.aload_n 0, 1) := by decide +kernel
theorem d_Mo_area_80 : decode m_Mo_area.2.1 80 = .ok (.getfield 7, 3) := by decide +kernel
theorem d_Mo_area_83 : decode m_Mo_area.2.1 83 = .ok (.iload 6, 2) := by decide +kernel
theorem d_Mo_area_85 : decode m_Mo_area.2.1 85 = .ok (.baload, 1) := by decide +kernel
theorem d_Mo_area_86 : decode m_Mo_area.2.1 86 = .ok (.ifCond .eq 67, 3) := by decide +kernel
theorem d_Mo_area_89 : decode m_Mo_area.2.1 89 = .ok (.aload_n 0, 1) := by decide +kernel
theorem d_Mo_area_90 : decode m_Mo_area.2.1 90 = .ok (.getfield 23, 3) := by decide +kernel
theorem d_Mo_area_93 : decode m_Mo_area.2.1 93 = .ok (.iload 6, 2) := by decide +kernel
theorem d_Mo_area_95 : decode m_Mo_area.2.1 95 = .ok (.baload, 1) := by decide +kernel
theorem d_Mo_area_96 : decode m_Mo_area.2.1 96 = .ok (.ifCond .eq 57, 3) := by decide +kernel
theorem d_Mo_area_99 : decode m_Mo_area.2.1 99 = .ok (.sipush 160, 3) := by decide +kernel
theorem d_Mo_area_102 : decode m_Mo_area.2.1 102 = .ok (.iload 6, 2) := by decide +kernel
theorem d_Mo_area_104 : decode m_Mo_area.2.1 104 = .ok (.imul, 1) := by decide +kernel
theorem d_Mo_area_105 : decode m_Mo_area.2.1 105 = .ok (.iload 7, 2) := by decide +kernel
theorem d_Mo_area_107 : decode m_Mo_area.2.1 107 = .ok (.iadd, 1) := by decide +kernel
theorem d_Mo_area_108 : decode m_Mo_area.2.1 108 = .ok (.istore 8, 2) := by decide +kernel
theorem d_Mo_area_110 : decode m_Mo_area.2.1 110 = .ok (.lload 4, 2) := by decide +kernel
theorem d_Mo_area_112 : decode m_Mo_area.2.1 112 = .ok (.aload_n 0, 1) := by decide +kernel
theorem d_Mo_area_113 : decode m_Mo_area.2.1 113 = .ok (.getfield 62, 3) := by decide +kernel
theorem d_Mo_area_116 : decode m_Mo_area.2.1 116 = .ok (.iload 8, 2) := by decide +kernel
theorem d_Mo_area_118 : decode m_Mo_area.2.1 118 = .ok (.iaload, 1) := by decide +kernel
theorem d_Mo_area_119 : decode m_Mo_area.2.1 119 = .ok (.iconst 1, 1) := by decide +kernel
theorem d_Mo_area_120 : decode m_Mo_area.2.1 120 = .ok (.if_icmp .ne 23, 3) := by decide +kernel
theorem d_Mo_area_123 : decode m_Mo_area.2.1 123 = .ok (.aload_n 0, 1) := by decide +kernel
theorem d_Mo_area_124 : decode m_Mo_area.2.1 124 = .ok (.getfield 47, 3) := by decide +kernel
theorem d_Mo_area_127 : decode m_Mo_area.2.1 127 = .ok (.iload 8, 2) := by decide +kernel
theorem d_Mo_area_129 : decode m_Mo_area.2.1 129 = .ok (.iaload, 1) := by decide +kernel
theorem d_Mo_area_130 : decode m_Mo_area.2.1 130 = .ok (.i2l, 1) := by decide +kernel
theorem d_Mo_area_131 : decode m_Mo_area.2.1 131 = .ok (.aload_n 0, 1) := by decide +kernel
theorem d_Mo_area_132 : decode m_Mo_area.2.1 132 = .ok (.getfield 50, 3) := by decide +kernel
theorem d_Mo_area_135 : decode m_Mo_area.2.1 135 = .ok (.iload 8, 2) := by decide +kernel
theorem d_Mo_area_137 : decode m_Mo_area.2.1 137 = .ok (.iaload, 1) := by decide +kernel
theorem d_Mo_area_138 : decode m_Mo_area.2.1 138 = .ok (.i2l, 1) := by decide +kernel
theorem d_Mo_area_139 : decode m_Mo_area.2.1 139 = .ok (.lmul, 1) := by decide +kernel
theorem d_Mo_area_140 : decode m_Mo_area.2.1 140 = .ok (.goto 4, 3) := by decide +kernel
theorem d_Mo_area_143 : decode m_Mo_area.2.1 143 = .ok (.lconst 0, 1) := by decide +kernel
theorem d_Mo_area_144 : decode m_Mo_area.2.1 144 = .ok (.ladd, 1) := by decide +kernel
theorem d_Mo_area_145 : decode m_Mo_area.2.1 145 = .ok (.lstore 4, 2) := by decide +kernel
theorem d_Mo_area_147 : decode m_Mo_area.2.1 147 = .ok (.iinc 7 1, 3) := by decide +kernel
theorem d_Mo_area_150 : decode m_Mo_area.2.1 150 = .ok (.goto (-83), 3) := by decide +kernel
theorem d_Mo_area_153 : decode m_Mo_area.2.1 153 = .ok (.iinc 6 1, 3) := by decide +kernel
theorem d_Mo_area_156 : decode m_Mo_area.2.1 156 = .ok (.goto (-143), 3) := by decide +kernel
theorem d_Mo_area_159 : decode m_Mo_area.2.1 159 = .ok (.lconst 0, 1) := by decide +kernel
theorem d_Mo_area_160 : decode m_Mo_area.2.1 160 = .ok (.lstore 6, 2) := by decide +kernel
theorem d_Mo_area_162 : decode m_Mo_area.2.1 162 = .ok (.iconst 0, 1) := by decide +kernel
theorem d_Mo_area_163 : decode m_Mo_area.2.1 163 = .ok (.istore 8, 2) := by decide +kernel
theorem d_Mo_area_165 : decode m_Mo_area.2.1 165 = .ok (.iload 8, 2) := by decide +kernel
theorem d_Mo_area_167 : decode m_Mo_area.2.1 167 = .ok (.aload_n 0, 1) := by decide +kernel
theorem d_Mo_area_168 : decode m_Mo_area.2.1 168 = .ok (.getfield 263, 3) := by decide +kernel
theorem d_Mo_area_171 : decode m_Mo_area.2.1 171 = .ok (.if_icmp .ge 31, 3) := by decide +kernel
theorem d_Mo_area_174 : decode m_Mo_area.2.1 174 = .ok (.lload 6, 2) := by decide +kernel
theorem d_Mo_area_176 : decode m_Mo_area.2.1 176 = .ok (.aload_n 0, 1) := by decide +kernel
theorem d_Mo_area_177 : decode m_Mo_area.2.1 177 = .ok (.getfield 83, 3) := by decide +kernel
theorem d_Mo_area_180 : decode m_Mo_area.2.1 180 = .ok (.iload 8, 2) := by decide +kernel
theorem d_Mo_area_182 : decode m_Mo_area.2.1 182 = .ok (.iaload, 1) := by decide +kernel
theorem d_Mo_area_183 : decode m_Mo_area.2.1 183 = .ok (.i2l, 1) := by decide +kernel
theorem d_Mo_area_184 : decode m_Mo_area.2.1 184 = .ok (.aload_n 0, 1) := by decide +kernel
theorem d_Mo_area_185 : decode m_Mo_area.2.1 185 = .ok (.getfield 86, 3) := by decide +kernel
theorem d_Mo_area_188 : decode m_Mo_area.2.1 188 = .ok (.iload 8, 2) := by decide +kernel
theorem d_Mo_area_190 : decode m_Mo_area.2.1 190 = .ok (.iaload, 1) := by decide +kernel
theorem d_Mo_area_191 : decode m_Mo_area.2.1 191 = .ok (.i2l, 1) := by decide +kernel
theorem d_Mo_area_192 : decode m_Mo_area.2.1 192 = .ok (.lmul, 1) := by decide +kernel
theorem d_Mo_area_193 : decode m_Mo_area.2.1 193 = .ok (.ladd, 1) := by decide +kernel
theorem d_Mo_area_194 : decode m_Mo_area.2.1 194 = .ok (.lstore 6, 2) := by decide +kernel
theorem d_Mo_area_196 : decode m_Mo_area.2.1 196 = .ok (.iinc 8 1, 3) := by decide +kernel
theorem d_Mo_area_199 : decode m_Mo_area.2.1 199 = .ok (.goto (-34), 3) := by decide +kernel
theorem d_Mo_area_202 : decode m_Mo_area.2.1 202 = .ok (.iload_n 1, 1) := by decide +kernel
theorem d_Mo_area_203 : decode m_Mo_area.2.1 203 = .ok (.ifCond .ne 7, 3) := by decide +kernel
theorem d_Mo_area_206 : decode m_Mo_area.2.1 206 = .ok (.lload_n 2, 1) := by decide +kernel
theorem d_Mo_area_207 : decode m_Mo_area.2.1 207 = .ok (.goto 73, 3) := by decide +kernel
theorem d_Mo_area_210 : decode m_Mo_area.2.1 210 = .ok (.iload_n 1, 1) := by decide +kernel
theorem d_Mo_area_211 : decode m_Mo_area.2.1 211 = .ok (.iconst 1, 1) := by decide +kernel
theorem d_Mo_area_212 : decode m_Mo_area.2.1 212 = .ok (.if_icmp .ne 10, 3) := by decide +kernel
theorem d_Mo_area_215 : decode m_Mo_area.2.1 215 = .ok (.aload_n 0, 1) := by decide +kernel
theorem d_Mo_area_216 : decode m_Mo_area.2.1 216 = .ok (.getfield 266, 3) := by decide +kernel
theorem d_Mo_area_219 : decode m_Mo_area.2.1 219 = .ok (.goto 61, 3) := by decide +kernel
theorem d_Mo_area_222 : decode m_Mo_area.2.1 222 = .ok (.iload_n 1, 1) := by decide +kernel
theorem d_Mo_area_223 : decode m_Mo_area.2.1 223 = .ok (.iconst 2, 1) := by decide +kernel
theorem d_Mo_area_224 : decode m_Mo_area.2.1 224 = .ok (.if_icmp .ne 8, 3) := by decide +kernel
theorem d_Mo_area_227 : decode m_Mo_area.2.1 227 = .ok (.lload 6, 2) := by decide +kernel
theorem d_Mo_area_229 : decode m_Mo_area.2.1 229 = .ok (.goto 51, 3) := by decide +kernel
theorem d_Mo_area_232 : decode m_Mo_area.2.1 232 = .ok (.iload_n 1, 1) := by decide +kernel
theorem d_Mo_area_233 : decode m_Mo_area.2.1 233 = .ok (.iconst 3, 1) := by decide +kernel
theorem d_Mo_area_234 : decode m_Mo_area.2.1 234 = .ok (.if_icmp .ne 10, 3) := by decide +kernel
theorem d_Mo_area_237 : decode m_Mo_area.2.1 237 = .ok (.aload_n 0, 1) := by decide +kernel
theorem d_Mo_area_238 : decode m_Mo_area.2.1 238 = .ok (.getfield 273, 3) := by decide +kernel
theorem d_Mo_area_241 : decode m_Mo_area.2.1 241 = .ok (.goto 39, 3) := by decide +kernel
theorem d_Mo_area_244 : decode m_Mo_area.2.1 244 = .ok (.iload_n 1, 1) := by decide +kernel
theorem d_Mo_area_245 : decode m_Mo_area.2.1 245 = .ok (.iconst 4, 1) := by decide +kernel
theorem d_Mo_area_246 : decode m_Mo_area.2.1 246 = .ok (.if_icmp .ne 10, 3) := by decide +kernel
theorem d_Mo_area_249 : decode m_Mo_area.2.1 249 = .ok (.aload_n 0, 1) := by decide +kernel
theorem d_Mo_area_250 : decode m_Mo_area.2.1 250 = .ok (.getfield 282, 3) := by decide +kernel
theorem d_Mo_area_253 : decode m_Mo_area.2.1 253 = .ok (.goto 27, 3) := by decide +kernel
theorem d_Mo_area_256 : decode m_Mo_area.2.1 256 = .ok (.iload_n 1, 1) := by decide +kernel
theorem d_Mo_area_257 : decode m_Mo_area.2.1 257 = .ok (.iconst 5, 1) := by decide +kernel
theorem d_Mo_area_258 : decode m_Mo_area.2.1 258 = .ok (.if_icmp .ne 8, 3) := by decide +kernel
theorem d_Mo_area_261 : decode m_Mo_area.2.1 261 = .ok (.lload 4, 2) := by decide +kernel
theorem d_Mo_area_263 : decode m_Mo_area.2.1 263 = .ok (.goto 17, 3) := by decide +kernel
theorem d_Mo_area_266 : decode m_Mo_area.2.1 266 = .ok (.iload_n 1, 1) := by decide +kernel
theorem d_Mo_area_267 : decode m_Mo_area.2.1 267 = .ok (.bipush 6, 2) := by decide +kernel
theorem d_Mo_area_269 : decode m_Mo_area.2.1 269 = .ok (.if_icmp .ne 10, 3) := by decide +kernel
theorem d_Mo_area_272 : decode m_Mo_area.2.1 272 = .ok (.aload_n 0, 1) := by decide +kernel
theorem d_Mo_area_273 : decode m_Mo_area.2.1 273 = .ok (.getfield 158, 3) := by decide +kernel
theorem d_Mo_area_276 : decode m_Mo_area.2.1 276 = .ok (.goto 4, 3) := by decide +kernel
theorem d_Mo_area_279 : decode m_Mo_area.2.1 279 = .ok (.lconst 0, 1) := by decide +kernel
theorem d_Mo_area_280 : decode m_Mo_area.2.1 280 = .ok (.lreturn, 1) := by decide +kernel
theorem d_Mo_total_0 : decode m_Mo_total.2.1 0 = .ok (.aload_n 0, 1) := by decide +kernel
theorem d_Mo_total_1 : decode m_Mo_total.2.1 1 = .ok (.iconst 0, 1) := by decide +kernel
theorem d_Mo_total_2 : decode m_Mo_total.2.1 2 = .ok (.putfield 140, 3) := by decide +kernel
theorem d_Mo_total_5 : decode m_Mo_total.2.1 5 = .ok (.iconst 0, 1) := by decide +kernel
theorem d_Mo_total_6 : decode m_Mo_total.2.1 6 = .ok (.istore_n 2, 1) := by decide +kernel
theorem d_Mo_total_7 : decode m_Mo_total.2.1 7 = .ok (.iconst 0, 1) := by decide +kernel
theorem d_Mo_total_8 : decode m_Mo_total.2.1 8 = .ok (.istore_n 3, 1) := by decide +kernel
theorem d_Mo_total_9 : decode m_Mo_total.2.1 9 = .ok (.iload_n 3, 1) := by decide +kernel
theorem d_Mo_total_10 : decode m_Mo_total.2.1 10 = .ok (.bipush 8, 2) := by decide +kernel
theorem d_Mo_total_12 : decode m_Mo_total.2.1 12 = .ok (.if_icmp .ge 35, 3) := by decide +kernel
theorem d_Mo_total_15 : decode m_Mo_total.2.1 15 = .ok (.aload_n 0, 1) := by decide +kernel
theorem d_Mo_total_16 : decode m_Mo_total.2.1 16 = .ok (.getfield 7, 3) := by decide +kernel
theorem d_Mo_total_19 : decode m_Mo_total.2.1 19 = .ok (.iload_n 3, 1) := by decide +kernel
theorem d_Mo_total_20 : decode m_Mo_total.2.1 20 = .ok (.baload, 1) := by decide +kernel
theorem d_Mo_total_21 : decode m_Mo_total.2.1 21 = .ok (.ifCond .eq 18, 3) := by decide +kernel
theorem d_Mo_total_24 : decode m_Mo_total.2.1 24 = .ok (.aload_n 0, 1) := by decide +kernel
theorem d_Mo_total_25 : decode m_Mo_total.2.1 25 = .ok (.getfield 23, 3) := by decide +kernel
theorem d_Mo_total_28 : decode m_Mo_total.2.1 28 = .ok (.iload_n 3, 1) := by decide +kernel
theorem d_Mo_total_29 : decode m_Mo_total.2.1 29 = .ok (.baload, 1) := by decide +kernel
theorem d_Mo_total_30 : decode m_Mo_total.2.1 30 = .ok (.ifCond .eq 9, 3) := by decide +kernel
theorem d_Mo_total_33 : decode m_Mo_total.2.1 33 = .ok (.iload_n 2, 1) := by decide +kernel
theorem d_Mo_total_34 : decode m_Mo_total.2.1 34 = .ok (.iconst 1, 1) := by decide +kernel
theorem d_Mo_total_35 : decode m_Mo_total.2.1 35 = .ok (.iadd, 1) := by decide +kernel
theorem d_Mo_total_36 : decode m_Mo_total.2.1 36 = .ok (.goto 4, 3) := by decide +kernel
theorem d_Mo_total_39 : decode m_Mo_total.2.1 39 = .ok (.iload_n 2, 1) := by decide +kernel
theorem d_Mo_total_40 : decode m_Mo_total.2.1 40 = .ok (.istore_n 2, 1) := by decide +kernel
theorem d_Mo_total_41 : decode m_Mo_total.2.1 41 = .ok (.iinc 3 1, 3) := by decide +kernel
theorem d_Mo_total_44 : decode m_Mo_total.2.1 44 = .ok (.goto (-35), 3) := by decide +kernel
theorem d_Mo_total_47 : decode m_Mo_total.2.1 47 = .ok (.iload_n 1, 1) := by decide +kernel
theorem d_Mo_total_48 : decode m_Mo_total.2.1 48 = .ok (.ifCond .ne 10, 3) := by decide +kernel
theorem d_Mo_total_51 : decode m_Mo_total.2.1 51 = .ok (.aload_n 0, 1) := by decide +kernel
theorem d_Mo_total_52 : decode m_Mo_total.2.1 52 = .ok (.invokevirtual 154, 3) := by decide +kernel
theorem d_Mo_total_55 : decode m_Mo_total.2.1 55 = .ok (.goto 49, 3) := by decide +kernel
theorem d_Mo_total_58 : decode m_Mo_total.2.1 58 = .ok (.iload_n 1, 1) := by decide +kernel
theorem d_Mo_total_59 : decode m_Mo_total.2.1 59 = .ok (.iconst 1, 1) := by decide +kernel
theorem d_Mo_total_60 : decode m_Mo_total.2.1 60 = .ok (.if_icmp .ne 7, 3) := by decide +kernel
theorem d_Mo_total_63 : decode m_Mo_total.2.1 63 = .ok (.iload_n 2, 1) := by decide +kernel
theorem d_Mo_total_64 : decode m_Mo_total.2.1 64 = .ok (.goto 40, 3) := by decide +kernel
theorem d_Mo_total_67 : decode m_Mo_total.2.1 67 = .ok (.iload_n 1, 1) := by decide +kernel
theorem d_Mo_total_68 : decode m_Mo_total.2.1 68 = .ok (.iconst 2, 1) := by decide +kernel
theorem d_Mo_total_69 : decode m_Mo_total.2.1 69 = .ok (.if_icmp .ne 10, 3) := by decide +kernel
theorem d_Mo_total_72 : decode m_Mo_total.2.1 72 = .ok (.aload_n 0, 1) := by decide +kernel
theorem d_Mo_total_73 : decode m_Mo_total.2.1 73 = .ok (.getfield 144, 3) := by decide +kernel
theorem d_Mo_total_76 : decode m_Mo_total.2.1 76 = .ok (.goto 28, 3) := by decide +kernel
theorem d_Mo_total_79 : decode m_Mo_total.2.1 79 = .ok (.iload_n 1, 1) := by decide +kernel
theorem d_Mo_total_80 : decode m_Mo_total.2.1 80 = .ok (.iconst 3, 1) := by decide +kernel
theorem d_Mo_total_81 : decode m_Mo_total.2.1 81 = .ok (.if_icmp .ne 10, 3) := by decide +kernel
theorem d_Mo_total_84 : decode m_Mo_total.2.1 84 = .ok (.aload_n 0, 1) := by decide +kernel
theorem d_Mo_total_85 : decode m_Mo_total.2.1 85 = .ok (.getfield 263, 3) := by decide +kernel
theorem d_Mo_total_88 : decode m_Mo_total.2.1 88 = .ok (.goto 16, 3) := by decide +kernel
theorem d_Mo_total_91 : decode m_Mo_total.2.1 91 = .ok (.iload_n 1, 1) := by decide +kernel
theorem d_Mo_total_92 : decode m_Mo_total.2.1 92 = .ok (.iconst 4, 1) := by decide +kernel
theorem d_Mo_total_93 : decode m_Mo_total.2.1 93 = .ok (.if_icmp .ne 10, 3) := by decide +kernel
theorem d_Mo_total_96 : decode m_Mo_total.2.1 96 = .ok (.aload_n 0, 1) := by decide +kernel
theorem d_Mo_total_97 : decode m_Mo_total.2.1 97 = .ok (.getfield 147, 3) := by decide +kernel
theorem d_Mo_total_100 : decode m_Mo_total.2.1 100 = .ok (.goto 4, 3) := by decide +kernel
theorem d_Mo_total_103 : decode m_Mo_total.2.1 103 = .ok (.iconst (-1), 1) := by decide +kernel
theorem d_Mo_total_104 : decode m_Mo_total.2.1 104 = .ok (.ireturn, 1) := by decide +kernel
theorem d_Lw_law_0 : decode m_Lw_law.2.1 0 = .ok (.new 8, 3) := by decide +kernel
theorem d_Lw_law_3 : decode m_Lw_law.2.1 3 = .ok (.dup, 1) := by decide +kernel
theorem d_Lw_law_4 : decode m_Lw_law.2.1 4 = .ok (.invokespecial 65, 3) := by decide +kernel
theorem d_Lw_law_7 : decode m_Lw_law.2.1 7 = .ok (.astore_n 1, 1) := by decide +kernel
theorem d_Lw_law_8 : decode m_Lw_law.2.1 8 = .ok (.new 66, 3) := by decide +kernel
theorem d_Lw_law_11 : decode m_Lw_law.2.1 11 = .ok (.dup, 1) := by decide +kernel
theorem d_Lw_law_12 : decode m_Lw_law.2.1 12 = .ok (.invokespecial 68, 3) := by decide +kernel
theorem d_Lw_law_15 : decode m_Lw_law.2.1 15 = .ok (.astore_n 2, 1) := by decide +kernel
theorem d_Lw_law_16 : decode m_Lw_law.2.1 16 = .ok (.iconst 1, 1) := by decide +kernel
theorem d_Lw_law_17 : decode m_Lw_law.2.1 17 = .ok (.newarray .long, 2) := by decide +kernel
theorem d_Lw_law_19 : decode m_Lw_law.2.1 19 = .ok (.astore_n 3, 1) := by decide +kernel
theorem d_Lw_law_20 : decode m_Lw_law.2.1 20 = .ok (.iconst 0, 1) := by decide +kernel
theorem d_Lw_law_21 : decode m_Lw_law.2.1 21 = .ok (.istore 4, 2) := by decide +kernel
theorem d_Lw_law_23 : decode m_Lw_law.2.1 23 = .ok (.iload 4, 2) := by decide +kernel
theorem d_Lw_law_25 : decode m_Lw_law.2.1 25 = .ok (.aload_n 0, 1) := by decide +kernel
theorem d_Lw_law_26 : decode m_Lw_law.2.1 26 = .ok (.arraylength, 1) := by decide +kernel
theorem d_Lw_law_27 : decode m_Lw_law.2.1 27 = .ok (.bipush 6, 2) := by decide +kernel
theorem d_Lw_law_29 : decode m_Lw_law.2.1 29 = .ok (.isub, 1) := by decide +kernel
theorem d_Lw_law_30 : decode m_Lw_law.2.1 30 = .ok (.if_icmp .gt 1204, 3) := by decide +kernel
theorem d_Lw_law_33 : decode m_Lw_law.2.1 33 = .ok (.aload_n 0, 1) := by decide +kernel
theorem d_Lw_law_34 : decode m_Lw_law.2.1 34 = .ok (.iload 4, 2) := by decide +kernel
theorem d_Lw_law_36 : decode m_Lw_law.2.1 36 = .ok (.iaload, 1) := by decide +kernel
theorem d_Lw_law_37 : decode m_Lw_law.2.1 37 = .ok (.bipush 31, 2) := by decide +kernel
theorem d_Lw_law_39 : decode m_Lw_law.2.1 39 = .ok (.iand, 1) := by decide +kernel
theorem d_Lw_law_40 : decode m_Lw_law.2.1 40 = .ok (.tableswitch 1188 0 16 #[84, 152, 256, 364, 420, 512, 592, 648, 704, 772, 828, 884, 952, 989, 1069, 1137, 1163], 84) := by decide +kernel
theorem d_Lw_law_124 : decode m_Lw_law.2.1 124 = .ok (.aload_n 1, 1) := by decide +kernel
theorem d_Lw_law_125 : decode m_Lw_law.2.1 125 = .ok (.aload_n 0, 1) := by decide +kernel
theorem d_Lw_law_126 : decode m_Lw_law.2.1 126 = .ok (.iload 4, 2) := by decide +kernel
theorem d_Lw_law_128 : decode m_Lw_law.2.1 128 = .ok (.iconst 1, 1) := by decide +kernel
theorem d_Lw_law_129 : decode m_Lw_law.2.1 129 = .ok (.iadd, 1) := by decide +kernel
theorem d_Lw_law_130 : decode m_Lw_law.2.1 130 = .ok (.iaload, 1) := by decide +kernel
theorem d_Lw_law_131 : decode m_Lw_law.2.1 131 = .ok (.aload_n 0, 1) := by decide +kernel
theorem d_Lw_law_132 : decode m_Lw_law.2.1 132 = .ok (.iload 4, 2) := by decide +kernel
theorem d_Lw_law_134 : decode m_Lw_law.2.1 134 = .ok (.iconst 2, 1) := by decide +kernel
theorem d_Lw_law_135 : decode m_Lw_law.2.1 135 = .ok (.iadd, 1) := by decide +kernel
theorem d_Lw_law_136 : decode m_Lw_law.2.1 136 = .ok (.iaload, 1) := by decide +kernel
theorem d_Lw_law_137 : decode m_Lw_law.2.1 137 = .ok (.aload_n 3, 1) := by decide +kernel
theorem d_Lw_law_138 : decode m_Lw_law.2.1 138 = .ok (.invokestatic 69, 3) := by decide +kernel
theorem d_Lw_law_141 : decode m_Lw_law.2.1 141 = .ok (.istore 5, 2) := by decide +kernel
theorem d_Lw_law_143 : decode m_Lw_law.2.1 143 = .ok (.aload_n 2, 1) := by decide +kernel
theorem d_Lw_law_144 : decode m_Lw_law.2.1 144 = .ok (.aload_n 0, 1) := by decide +kernel
theorem d_Lw_law_145 : decode m_Lw_law.2.1 145 = .ok (.iload 4, 2) := by decide +kernel
theorem d_Lw_law_147 : decode m_Lw_law.2.1 147 = .ok (.iconst 1, 1) := by decide +kernel
theorem d_Lw_law_148 : decode m_Lw_law.2.1 148 = .ok (.iadd, 1) := by decide +kernel
theorem d_Lw_law_149 : decode m_Lw_law.2.1 149 = .ok (.iaload, 1) := by decide +kernel
theorem d_Lw_law_150 : decode m_Lw_law.2.1 150 = .ok (.aload_n 0, 1) := by decide +kernel
theorem d_Lw_law_151 : decode m_Lw_law.2.1 151 = .ok (.iload 4, 2) := by decide +kernel
theorem d_Lw_law_153 : decode m_Lw_law.2.1 153 = .ok (.iconst 2, 1) := by decide +kernel
theorem d_Lw_law_154 : decode m_Lw_law.2.1 154 = .ok (.iadd, 1) := by decide +kernel
theorem d_Lw_law_155 : decode m_Lw_law.2.1 155 = .ok (.iaload, 1) := by decide +kernel
theorem d_Lw_law_156 : decode m_Lw_law.2.1 156 = .ok (.invokevirtual 74, 3) := by decide +kernel
theorem d_Lw_law_159 : decode m_Lw_law.2.1 159 = .ok (.istore 6, 2) := by decide +kernel
theorem d_Lw_law_161 : decode m_Lw_law.2.1 161 = .ok (.aload_n 2, 1) := by decide +kernel
theorem d_Lw_law_162 : decode m_Lw_law.2.1 162 = .ok (.invokevirtual 75, 3) := by decide +kernel
theorem d_Lw_law_165 : decode m_Lw_law.2.1 165 = .ok (.iload 5, 2) := by decide +kernel
theorem d_Lw_law_167 : decode m_Lw_law.2.1 167 = .ok (.if_icmp .eq 5, 3) := by decide +kernel
theorem d_Lw_law_170 : decode m_Lw_law.2.1 170 = .ok (.iconst 0, 1) := by decide +kernel
theorem d_Lw_law_171 : decode m_Lw_law.2.1 171 = .ok (.ireturn, 1) := by decide +kernel
theorem d_Lw_law_172 : decode m_Lw_law.2.1 172 = .ok (.iload 5, 2) := by decide +kernel
theorem d_Lw_law_174 : decode m_Lw_law.2.1 174 = .ok (.ifCond .ne 15, 3) := by decide +kernel
theorem d_Lw_law_177 : decode m_Lw_law.2.1 177 = .ok (.aload_n 3, 1) := by decide +kernel
theorem d_Lw_law_178 : decode m_Lw_law.2.1 178 = .ok (.iconst 0, 1) := by decide +kernel
theorem d_Lw_law_179 : decode m_Lw_law.2.1 179 = .ok (.laload, 1) := by decide +kernel
theorem d_Lw_law_180 : decode m_Lw_law.2.1 180 = .ok (.iload 6, 2) := by decide +kernel
theorem d_Lw_law_182 : decode m_Lw_law.2.1 182 = .ok (.i2l, 1) := by decide +kernel
theorem d_Lw_law_183 : decode m_Lw_law.2.1 183 = .ok (.lcmp, 1) := by decide +kernel
theorem d_Lw_law_184 : decode m_Lw_law.2.1 184 = .ok (.ifCond .eq 5, 3) := by decide +kernel
theorem d_Lw_law_187 : decode m_Lw_law.2.1 187 = .ok (.iconst 0, 1) := by decide +kernel
theorem d_Lw_law_188 : decode m_Lw_law.2.1 188 = .ok (.ireturn, 1) := by decide +kernel
theorem d_Lw_law_189 : decode m_Lw_law.2.1 189 = .ok (.goto 1039, 3) := by decide +kernel
theorem d_Lw_law_192 : decode m_Lw_law.2.1 192 = .ok (.aload_n 1, 1) := by decide +kernel
theorem d_Lw_law_193 : decode m_Lw_law.2.1 193 = .ok (.aload_n 0, 1) := by decide +kernel
theorem d_Lw_law_194 : decode m_Lw_law.2.1 194 = .ok (.iload 4, 2) := by decide +kernel
theorem d_Lw_law_196 : decode m_Lw_law.2.1 196 = .ok (.iconst 1, 1) := by decide +kernel
theorem d_Lw_law_197 : decode m_Lw_law.2.1 197 = .ok (.iadd, 1) := by decide +kernel
theorem d_Lw_law_198 : decode m_Lw_law.2.1 198 = .ok (.iaload, 1) := by decide +kernel
theorem d_Lw_law_199 : decode m_Lw_law.2.1 199 = .ok (.aload_n 0, 1) := by decide +kernel
theorem d_Lw_law_200 : decode m_Lw_law.2.1 200 = .ok (.iload 4, 2) := by decide +kernel
theorem d_Lw_law_202 : decode m_Lw_law.2.1 202 = .ok (.iconst 2, 1) := by decide +kernel
theorem d_Lw_law_203 : decode m_Lw_law.2.1 203 = .ok (.iadd, 1) := by decide +kernel
theorem d_Lw_law_204 : decode m_Lw_law.2.1 204 = .ok (.iaload, 1) := by decide +kernel
theorem d_Lw_law_205 : decode m_Lw_law.2.1 205 = .ok (.aload_n 0, 1) := by decide +kernel
theorem d_Lw_law_206 : decode m_Lw_law.2.1 206 = .ok (.iload 4, 2) := by decide +kernel
theorem d_Lw_law_208 : decode m_Lw_law.2.1 208 = .ok (.iconst 3, 1) := by decide +kernel
theorem d_Lw_law_209 : decode m_Lw_law.2.1 209 = .ok (.iadd, 1) := by decide +kernel
theorem d_Lw_law_210 : decode m_Lw_law.2.1 210 = .ok (.iaload, 1) := by decide +kernel
theorem d_Lw_law_211 : decode m_Lw_law.2.1 211 = .ok (.aload_n 0, 1) := by decide +kernel
theorem d_Lw_law_212 : decode m_Lw_law.2.1 212 = .ok (.iload 4, 2) := by decide +kernel
theorem d_Lw_law_214 : decode m_Lw_law.2.1 214 = .ok (.iconst 4, 1) := by decide +kernel
theorem d_Lw_law_215 : decode m_Lw_law.2.1 215 = .ok (.iadd, 1) := by decide +kernel
theorem d_Lw_law_216 : decode m_Lw_law.2.1 216 = .ok (.iaload, 1) := by decide +kernel
theorem d_Lw_law_217 : decode m_Lw_law.2.1 217 = .ok (.aload_n 0, 1) := by decide +kernel
theorem d_Lw_law_218 : decode m_Lw_law.2.1 218 = .ok (.iload 4, 2) := by decide +kernel
theorem d_Lw_law_220 : decode m_Lw_law.2.1 220 = .ok (.iconst 5, 1) := by decide +kernel
theorem d_Lw_law_221 : decode m_Lw_law.2.1 221 = .ok (.iadd, 1) := by decide +kernel
theorem d_Lw_law_222 : decode m_Lw_law.2.1 222 = .ok (.iaload, 1) := by decide +kernel
theorem d_Lw_law_223 : decode m_Lw_law.2.1 223 = .ok (.aload_n 3, 1) := by decide +kernel
theorem d_Lw_law_224 : decode m_Lw_law.2.1 224 = .ok (.invokestatic 79, 3) := by decide +kernel
theorem d_Lw_law_227 : decode m_Lw_law.2.1 227 = .ok (.istore 5, 2) := by decide +kernel
theorem d_Lw_law_229 : decode m_Lw_law.2.1 229 = .ok (.aload_n 2, 1) := by decide +kernel
theorem d_Lw_law_230 : decode m_Lw_law.2.1 230 = .ok (.aload_n 0, 1) := by decide +kernel
theorem d_Lw_law_231 : decode m_Lw_law.2.1 231 = .ok (.iload 4, 2) := by decide +kernel
theorem d_Lw_law_233 : decode m_Lw_law.2.1 233 = .ok (.iconst 1, 1) := by decide +kernel
theorem d_Lw_law_234 : decode m_Lw_law.2.1 234 = .ok (.iadd, 1) := by decide +kernel
theorem d_Lw_law_235 : decode m_Lw_law.2.1 235 = .ok (.iaload, 1) := by decide +kernel
theorem d_Lw_law_236 : decode m_Lw_law.2.1 236 = .ok (.aload_n 0, 1) := by decide +kernel
theorem d_Lw_law_237 : decode m_Lw_law.2.1 237 = .ok (.iload 4, 2) := by decide +kernel
theorem d_Lw_law_239 : decode m_Lw_law.2.1 239 = .ok (.iconst 2, 1) := by decide +kernel
theorem d_Lw_law_240 : decode m_Lw_law.2.1 240 = .ok (.iadd, 1) := by decide +kernel
theorem d_Lw_law_241 : decode m_Lw_law.2.1 241 = .ok (.iaload, 1) := by decide +kernel
theorem d_Lw_law_242 : decode m_Lw_law.2.1 242 = .ok (.aload_n 0, 1) := by decide +kernel
theorem d_Lw_law_243 : decode m_Lw_law.2.1 243 = .ok (.iload 4, 2) := by decide +kernel
theorem d_Lw_law_245 : decode m_Lw_law.2.1 245 = .ok (.iconst 3, 1) := by decide +kernel
theorem d_Lw_law_246 : decode m_Lw_law.2.1 246 = .ok (.iadd, 1) := by decide +kernel
theorem d_Lw_law_247 : decode m_Lw_law.2.1 247 = .ok (.iaload, 1) := by decide +kernel
theorem d_Lw_law_248 : decode m_Lw_law.2.1 248 = .ok (.aload_n 0, 1) := by decide +kernel
theorem d_Lw_law_249 : decode m_Lw_law.2.1 249 = .ok (.iload 4, 2) := by decide +kernel
theorem d_Lw_law_251 : decode m_Lw_law.2.1 251 = .ok (.iconst 4, 1) := by decide +kernel
theorem d_Lw_law_252 : decode m_Lw_law.2.1 252 = .ok (.iadd, 1) := by decide +kernel
theorem d_Lw_law_253 : decode m_Lw_law.2.1 253 = .ok (.iaload, 1) := by decide +kernel
theorem d_Lw_law_254 : decode m_Lw_law.2.1 254 = .ok (.aload_n 0, 1) := by decide +kernel
theorem d_Lw_law_255 : decode m_Lw_law.2.1 255 = .ok (.iload 4, 2) := by decide +kernel
theorem d_Lw_law_257 : decode m_Lw_law.2.1 257 = .ok (.iconst 5, 1) := by decide +kernel
theorem d_Lw_law_258 : decode m_Lw_law.2.1 258 = .ok (.iadd, 1) := by decide +kernel
theorem d_Lw_law_259 : decode m_Lw_law.2.1 259 = .ok (.iaload, 1) := by decide +kernel
theorem d_Lw_law_260 : decode m_Lw_law.2.1 260 = .ok (.invokevirtual 82, 3) := by decide +kernel
theorem d_Lw_law_263 : decode m_Lw_law.2.1 263 = .ok (.istore 6, 2) := by decide +kernel
theorem d_Lw_law_265 : decode m_Lw_law.2.1 265 = .ok (.aload_n 2, 1) := by decide +kernel
theorem d_Lw_law_266 : decode m_Lw_law.2.1 266 = .ok (.invokevirtual 75, 3) := by decide +kernel
theorem d_Lw_law_269 : decode m_Lw_law.2.1 269 = .ok (.iload 5, 2) := by decide +kernel
theorem d_Lw_law_271 : decode m_Lw_law.2.1 271 = .ok (.if_icmp .eq 5, 3) := by decide +kernel
theorem d_Lw_law_274 : decode m_Lw_law.2.1 274 = .ok (.iconst 0, 1) := by decide +kernel
theorem d_Lw_law_275 : decode m_Lw_law.2.1 275 = .ok (.ireturn, 1) := by decide +kernel
theorem d_Lw_law_276 : decode m_Lw_law.2.1 276 = .ok (.iload 5, 2) := by decide +kernel
theorem d_Lw_law_278 : decode m_Lw_law.2.1 278 = .ok (.ifCond .ne 15, 3) := by decide +kernel
theorem d_Lw_law_281 : decode m_Lw_law.2.1 281 = .ok (.aload_n 3, 1) := by decide +kernel
theorem d_Lw_law_282 : decode m_Lw_law.2.1 282 = .ok (.iconst 0, 1) := by decide +kernel
theorem d_Lw_law_283 : decode m_Lw_law.2.1 283 = .ok (.laload, 1) := by decide +kernel
theorem d_Lw_law_284 : decode m_Lw_law.2.1 284 = .ok (.iload 6, 2) := by decide +kernel
theorem d_Lw_law_286 : decode m_Lw_law.2.1 286 = .ok (.i2l, 1) := by decide +kernel
theorem d_Lw_law_287 : decode m_Lw_law.2.1 287 = .ok (.lcmp, 1) := by decide +kernel
theorem d_Lw_law_288 : decode m_Lw_law.2.1 288 = .ok (.ifCond .eq 5, 3) := by decide +kernel
theorem d_Lw_law_291 : decode m_Lw_law.2.1 291 = .ok (.iconst 0, 1) := by decide +kernel
theorem d_Lw_law_292 : decode m_Lw_law.2.1 292 = .ok (.ireturn, 1) := by decide +kernel
theorem d_Lw_law_293 : decode m_Lw_law.2.1 293 = .ok (.goto 935, 3) := by decide +kernel
theorem d_Lw_law_296 : decode m_Lw_law.2.1 296 = .ok (.aload_n 1, 1) := by decide +kernel
theorem d_Lw_law_297 : decode m_Lw_law.2.1 297 = .ok (.aload_n 0, 1) := by decide +kernel
theorem d_Lw_law_298 : decode m_Lw_law.2.1 298 = .ok (.iload 4, 2) := by decide +kernel
theorem d_Lw_law_300 : decode m_Lw_law.2.1 300 = .ok (.iconst 1, 1) := by decide +kernel
theorem d_Lw_law_301 : decode m_Lw_law.2.1 301 = .ok (.iadd, 1) := by decide +kernel
theorem d_Lw_law_302 : decode m_Lw_law.2.1 302 = .ok (.iaload, 1) := by decide +kernel
theorem d_Lw_law_303 : decode m_Lw_law.2.1 303 = .ok (.aload_n 0, 1) := by decide +kernel
theorem d_Lw_law_304 : decode m_Lw_law.2.1 304 = .ok (.iload 4, 2) := by decide +kernel
theorem d_Lw_law_306 : decode m_Lw_law.2.1 306 = .ok (.iconst 2, 1) := by decide +kernel
theorem d_Lw_law_307 : decode m_Lw_law.2.1 307 = .ok (.iadd, 1) := by decide +kernel
theorem d_Lw_law_308 : decode m_Lw_law.2.1 308 = .ok (.iaload, 1) := by decide +kernel
theorem d_Lw_law_309 : decode m_Lw_law.2.1 309 = .ok (.aload_n 0, 1) := by decide +kernel
theorem d_Lw_law_310 : decode m_Lw_law.2.1 310 = .ok (.iload 4, 2) := by decide +kernel
theorem d_Lw_law_312 : decode m_Lw_law.2.1 312 = .ok (.iconst 3, 1) := by decide +kernel
theorem d_Lw_law_313 : decode m_Lw_law.2.1 313 = .ok (.iadd, 1) := by decide +kernel
theorem d_Lw_law_314 : decode m_Lw_law.2.1 314 = .ok (.iaload, 1) := by decide +kernel
theorem d_Lw_law_315 : decode m_Lw_law.2.1 315 = .ok (.ifCond .eq 7, 3) := by decide +kernel
theorem d_Lw_law_318 : decode m_Lw_law.2.1 318 = .ok (.iconst 1, 1) := by decide +kernel
theorem d_Lw_law_319 : decode m_Lw_law.2.1 319 = .ok (.goto 4, 3) := by decide +kernel
theorem d_Lw_law_322 : decode m_Lw_law.2.1 322 = .ok (.iconst 0, 1) := by decide +kernel
theorem d_Lw_law_323 : decode m_Lw_law.2.1 323 = .ok (.aload_n 0, 1) := by decide +kernel
theorem d_Lw_law_324 : decode m_Lw_law.2.1 324 = .ok (.iload 4, 2) := by decide +kernel
theorem d_Lw_law_326 : decode m_Lw_law.2.1 326 = .ok (.iconst 4, 1) := by decide +kernel
theorem d_Lw_law_327 : decode m_Lw_law.2.1 327 = .ok (.iadd, 1) := by decide +kernel
theorem d_Lw_law_328 : decode m_Lw_law.2.1 328 = .ok (.iaload, 1) := by decide +kernel
theorem d_Lw_law_329 : decode m_Lw_law.2.1 329 = .ok (.aload_n 3, 1) := by decide +kernel
theorem d_Lw_law_330 : decode m_Lw_law.2.1 330 = .ok (.invokestatic 83, 3) := by decide +kernel
theorem d_Lw_law_333 : decode m_Lw_law.2.1 333 = .ok (.istore 5, 2) := by decide +kernel
theorem d_Lw_law_335 : decode m_Lw_law.2.1 335 = .ok (.aload_n 2, 1) := by decide +kernel
theorem d_Lw_law_336 : decode m_Lw_law.2.1 336 = .ok (.aload_n 0, 1) := by decide +kernel
theorem d_Lw_law_337 : decode m_Lw_law.2.1 337 = .ok (.iload 4, 2) := by decide +kernel
theorem d_Lw_law_339 : decode m_Lw_law.2.1 339 = .ok (.iconst 1, 1) := by decide +kernel
theorem d_Lw_law_340 : decode m_Lw_law.2.1 340 = .ok (.iadd, 1) := by decide +kernel
theorem d_Lw_law_341 : decode m_Lw_law.2.1 341 = .ok (.iaload, 1) := by decide +kernel
theorem d_Lw_law_342 : decode m_Lw_law.2.1 342 = .ok (.aload_n 0, 1) := by decide +kernel
theorem d_Lw_law_343 : decode m_Lw_law.2.1 343 = .ok (.iload 4, 2) := by decide +kernel
theorem d_Lw_law_345 : decode m_Lw_law.2.1 345 = .ok (.iconst 2, 1) := by decide +kernel
theorem d_Lw_law_346 : decode m_Lw_law.2.1 346 = .ok (.iadd, 1) := by decide +kernel
theorem d_Lw_law_347 : decode m_Lw_law.2.1 347 = .ok (.iaload, 1) := by decide +kernel
theorem d_Lw_law_348 : decode m_Lw_law.2.1 348 = .ok (.aload_n 0, 1) := by decide +kernel
theorem d_Lw_law_349 : decode m_Lw_law.2.1 349 = .ok (.iload 4, 2) := by decide +kernel
theorem d_Lw_law_351 : decode m_Lw_law.2.1 351 = .ok (.iconst 3, 1) := by decide +kernel
theorem d_Lw_law_352 : decode m_Lw_law.2.1 352 = .ok (.iadd, 1) := by decide +kernel
theorem d_Lw_law_353 : decode m_Lw_law.2.1 353 = .ok (.iaload, 1) := by decide +kernel
theorem d_Lw_law_354 : decode m_Lw_law.2.1 354 = .ok (.ifCond .eq 7, 3) := by decide +kernel
theorem d_Lw_law_357 : decode m_Lw_law.2.1 357 = .ok (.iconst 1, 1) := by decide +kernel
theorem d_Lw_law_358 : decode m_Lw_law.2.1 358 = .ok (.goto 4, 3) := by decide +kernel
theorem d_Lw_law_361 : decode m_Lw_law.2.1 361 = .ok (.iconst 0, 1) := by decide +kernel
theorem d_Lw_law_362 : decode m_Lw_law.2.1 362 = .ok (.aload_n 0, 1) := by decide +kernel
theorem d_Lw_law_363 : decode m_Lw_law.2.1 363 = .ok (.iload 4, 2) := by decide +kernel
theorem d_Lw_law_365 : decode m_Lw_law.2.1 365 = .ok (.iconst 4, 1) := by decide +kernel
theorem d_Lw_law_366 : decode m_Lw_law.2.1 366 = .ok (.iadd, 1) := by decide +kernel
theorem d_Lw_law_367 : decode m_Lw_law.2.1 367 = .ok (.iaload, 1) := by decide +kernel
theorem d_Lw_law_368 : decode m_Lw_law.2.1 368 = .ok (.invokevirtual 86, 3) := by decide +kernel
theorem d_Lw_law_371 : decode m_Lw_law.2.1 371 = .ok (.istore 6, 2) := by decide +kernel
theorem d_Lw_law_373 : decode m_Lw_law.2.1 373 = .ok (.aload_n 2, 1) := by decide +kernel
theorem d_Lw_law_374 : decode m_Lw_law.2.1 374 = .ok (.invokevirtual 75, 3) := by decide +kernel
theorem d_Lw_law_377 : decode m_Lw_law.2.1 377 = .ok (.iload 5, 2) := by decide +kernel
theorem d_Lw_law_379 : decode m_Lw_law.2.1 379 = .ok (.if_icmp .eq 5, 3) := by decide +kernel
theorem d_Lw_law_382 : decode m_Lw_law.2.1 382 = .ok (.iconst 0, 1) := by decide +kernel
theorem d_Lw_law_383 : decode m_Lw_law.2.1 383 = .ok (.ireturn, 1) := by decide +kernel
theorem d_Lw_law_384 : decode m_Lw_law.2.1 384 = .ok (.iload 5, 2) := by decide +kernel
theorem d_Lw_law_386 : decode m_Lw_law.2.1 386 = .ok (.ifCond .ne 15, 3) := by decide +kernel
theorem d_Lw_law_389 : decode m_Lw_law.2.1 389 = .ok (.aload_n 3, 1) := by decide +kernel
theorem d_Lw_law_390 : decode m_Lw_law.2.1 390 = .ok (.iconst 0, 1) := by decide +kernel
theorem d_Lw_law_391 : decode m_Lw_law.2.1 391 = .ok (.laload, 1) := by decide +kernel
theorem d_Lw_law_392 : decode m_Lw_law.2.1 392 = .ok (.iload 6, 2) := by decide +kernel
theorem d_Lw_law_394 : decode m_Lw_law.2.1 394 = .ok (.i2l, 1) := by decide +kernel
theorem d_Lw_law_395 : decode m_Lw_law.2.1 395 = .ok (.lcmp, 1) := by decide +kernel
theorem d_Lw_law_396 : decode m_Lw_law.2.1 396 = .ok (.ifCond .eq 5, 3) := by decide +kernel
theorem d_Lw_law_399 : decode m_Lw_law.2.1 399 = .ok (.iconst 0, 1) := by decide +kernel
theorem d_Lw_law_400 : decode m_Lw_law.2.1 400 = .ok (.ireturn, 1) := by decide +kernel
theorem d_Lw_law_401 : decode m_Lw_law.2.1 401 = .ok (.goto 827, 3) := by decide +kernel
theorem d_Lw_law_404 : decode m_Lw_law.2.1 404 = .ok (.aload_n 1, 1) := by decide +kernel
theorem d_Lw_law_405 : decode m_Lw_law.2.1 405 = .ok (.aload_n 0, 1) := by decide +kernel
theorem d_Lw_law_406 : decode m_Lw_law.2.1 406 = .ok (.iload 4, 2) := by decide +kernel
theorem d_Lw_law_408 : decode m_Lw_law.2.1 408 = .ok (.iconst 1, 1) := by decide +kernel
theorem d_Lw_law_409 : decode m_Lw_law.2.1 409 = .ok (.iadd, 1) := by decide +kernel
theorem d_Lw_law_410 : decode m_Lw_law.2.1 410 = .ok (.iaload, 1) := by decide +kernel
theorem d_Lw_law_411 : decode m_Lw_law.2.1 411 = .ok (.aload_n 3, 1) := by decide +kernel
theorem d_Lw_law_412 : decode m_Lw_law.2.1 412 = .ok (.invokestatic 87, 3) := by decide +kernel
theorem d_Lw_law_415 : decode m_Lw_law.2.1 415 = .ok (.istore 5, 2) := by decide +kernel
theorem d_Lw_law_417 : decode m_Lw_law.2.1 417 = .ok (.aload_n 2, 1) := by decide +kernel
theorem d_Lw_law_418 : decode m_Lw_law.2.1 418 = .ok (.aload_n 0, 1) := by decide +kernel
theorem d_Lw_law_419 : decode m_Lw_law.2.1 419 = .ok (.iload 4, 2) := by decide +kernel
theorem d_Lw_law_421 : decode m_Lw_law.2.1 421 = .ok (.iconst 1, 1) := by decide +kernel
theorem d_Lw_law_422 : decode m_Lw_law.2.1 422 = .ok (.iadd, 1) := by decide +kernel
theorem d_Lw_law_423 : decode m_Lw_law.2.1 423 = .ok (.iaload, 1) := by decide +kernel
theorem d_Lw_law_424 : decode m_Lw_law.2.1 424 = .ok (.invokevirtual 90, 3) := by decide +kernel
theorem d_Lw_law_427 : decode m_Lw_law.2.1 427 = .ok (.istore 6, 2) := by decide +kernel
theorem d_Lw_law_429 : decode m_Lw_law.2.1 429 = .ok (.aload_n 2, 1) := by decide +kernel
theorem d_Lw_law_430 : decode m_Lw_law.2.1 430 = .ok (.invokevirtual 75, 3) := by decide +kernel
theorem d_Lw_law_433 : decode m_Lw_law.2.1 433 = .ok (.iload 5, 2) := by decide +kernel
theorem d_Lw_law_435 : decode m_Lw_law.2.1 435 = .ok (.if_icmp .eq 5, 3) := by decide +kernel
theorem d_Lw_law_438 : decode m_Lw_law.2.1 438 = .ok (.iconst 0, 1) := by decide +kernel
theorem d_Lw_law_439 : decode m_Lw_law.2.1 439 = .ok (.ireturn, 1) := by decide +kernel
theorem d_Lw_law_440 : decode m_Lw_law.2.1 440 = .ok (.iload 5, 2) := by decide +kernel
theorem d_Lw_law_442 : decode m_Lw_law.2.1 442 = .ok (.ifCond .ne 15, 3) := by decide +kernel
theorem d_Lw_law_445 : decode m_Lw_law.2.1 445 = .ok (.aload_n 3, 1) := by decide +kernel
theorem d_Lw_law_446 : decode m_Lw_law.2.1 446 = .ok (.iconst 0, 1) := by decide +kernel
theorem d_Lw_law_447 : decode m_Lw_law.2.1 447 = .ok (.laload, 1) := by decide +kernel
theorem d_Lw_law_448 : decode m_Lw_law.2.1 448 = .ok (.iload 6, 2) := by decide +kernel
theorem d_Lw_law_450 : decode m_Lw_law.2.1 450 = .ok (.i2l, 1) := by decide +kernel
theorem d_Lw_law_451 : decode m_Lw_law.2.1 451 = .ok (.lcmp, 1) := by decide +kernel
theorem d_Lw_law_452 : decode m_Lw_law.2.1 452 = .ok (.ifCond .eq 5, 3) := by decide +kernel
theorem d_Lw_law_455 : decode m_Lw_law.2.1 455 = .ok (.iconst 0, 1) := by decide +kernel
theorem d_Lw_law_456 : decode m_Lw_law.2.1 456 = .ok (.ireturn, 1) := by decide +kernel
theorem d_Lw_law_457 : decode m_Lw_law.2.1 457 = .ok (.goto 771, 3) := by decide +kernel
theorem d_Lw_law_460 : decode m_Lw_law.2.1 460 = .ok (.aload_n 1, 1) := by decide +kernel
theorem d_Lw_law_461 : decode m_Lw_law.2.1 461 = .ok (.aload_n 0, 1) := by decide +kernel
theorem d_Lw_law_462 : decode m_Lw_law.2.1 462 = .ok (.iload 4, 2) := by decide +kernel
theorem d_Lw_law_464 : decode m_Lw_law.2.1 464 = .ok (.iconst 1, 1) := by decide +kernel
theorem d_Lw_law_465 : decode m_Lw_law.2.1 465 = .ok (.iadd, 1) := by decide +kernel
theorem d_Lw_law_466 : decode m_Lw_law.2.1 466 = .ok (.iaload, 1) := by decide +kernel
theorem d_Lw_law_467 : decode m_Lw_law.2.1 467 = .ok (.aload_n 0, 1) := by decide +kernel
theorem d_Lw_law_468 : decode m_Lw_law.2.1 468 = .ok (.iload 4, 2) := by decide +kernel
theorem d_Lw_law_470 : decode m_Lw_law.2.1 470 = .ok (.iconst 2, 1) := by decide +kernel
theorem d_Lw_law_471 : decode m_Lw_law.2.1 471 = .ok (.iadd, 1) := by decide +kernel
theorem d_Lw_law_472 : decode m_Lw_law.2.1 472 = .ok (.iaload, 1) := by decide +kernel
theorem d_Lw_law_473 : decode m_Lw_law.2.1 473 = .ok (.aload_n 0, 1) := by decide +kernel
theorem d_Lw_law_474 : decode m_Lw_law.2.1 474 = .ok (.iload 4, 2) := by decide +kernel
theorem d_Lw_law_476 : decode m_Lw_law.2.1 476 = .ok (.iconst 3, 1) := by decide +kernel
theorem d_Lw_law_477 : decode m_Lw_law.2.1 477 = .ok (.iadd, 1) := by decide +kernel
theorem d_Lw_law_478 : decode m_Lw_law.2.1 478 = .ok (.iaload, 1) := by decide +kernel
theorem d_Lw_law_479 : decode m_Lw_law.2.1 479 = .ok (.aload_n 0, 1) := by decide +kernel
theorem d_Lw_law_480 : decode m_Lw_law.2.1 480 = .ok (.iload 4, 2) := by decide +kernel
theorem d_Lw_law_482 : decode m_Lw_law.2.1 482 = .ok (.iconst 4, 1) := by decide +kernel
theorem d_Lw_law_483 : decode m_Lw_law.2.1 483 = .ok (.iadd, 1) := by decide +kernel
theorem d_Lw_law_484 : decode m_Lw_law.2.1 484 = .ok (.iaload, 1) := by decide +kernel
theorem d_Lw_law_485 : decode m_Lw_law.2.1 485 = .ok (.aload_n 3, 1) := by decide +kernel
theorem d_Lw_law_486 : decode m_Lw_law.2.1 486 = .ok (.invokestatic 91, 3) := by decide +kernel
theorem d_Lw_law_489 : decode m_Lw_law.2.1 489 = .ok (.istore 5, 2) := by decide +kernel
theorem d_Lw_law_491 : decode m_Lw_law.2.1 491 = .ok (.aload_n 2, 1) := by decide +kernel
theorem d_Lw_law_492 : decode m_Lw_law.2.1 492 = .ok (.aload_n 0, 1) := by decide +kernel
theorem d_Lw_law_493 : decode m_Lw_law.2.1 493 = .ok (.iload 4, 2) := by decide +kernel
theorem d_Lw_law_495 : decode m_Lw_law.2.1 495 = .ok (.iconst 1, 1) := by decide +kernel
theorem d_Lw_law_496 : decode m_Lw_law.2.1 496 = .ok (.iadd, 1) := by decide +kernel
theorem d_Lw_law_497 : decode m_Lw_law.2.1 497 = .ok (.iaload, 1) := by decide +kernel
theorem d_Lw_law_498 : decode m_Lw_law.2.1 498 = .ok (.aload_n 0, 1) := by decide +kernel
theorem d_Lw_law_499 : decode m_Lw_law.2.1 499 = .ok (.iload 4, 2) := by decide +kernel
theorem d_Lw_law_501 : decode m_Lw_law.2.1 501 = .ok (.iconst 2, 1) := by decide +kernel
theorem d_Lw_law_502 : decode m_Lw_law.2.1 502 = .ok (.iadd, 1) := by decide +kernel
theorem d_Lw_law_503 : decode m_Lw_law.2.1 503 = .ok (.iaload, 1) := by decide +kernel
theorem d_Lw_law_504 : decode m_Lw_law.2.1 504 = .ok (.aload_n 0, 1) := by decide +kernel
theorem d_Lw_law_505 : decode m_Lw_law.2.1 505 = .ok (.iload 4, 2) := by decide +kernel
theorem d_Lw_law_507 : decode m_Lw_law.2.1 507 = .ok (.iconst 3, 1) := by decide +kernel
theorem d_Lw_law_508 : decode m_Lw_law.2.1 508 = .ok (.iadd, 1) := by decide +kernel
theorem d_Lw_law_509 : decode m_Lw_law.2.1 509 = .ok (.iaload, 1) := by decide +kernel
theorem d_Lw_law_510 : decode m_Lw_law.2.1 510 = .ok (.aload_n 0, 1) := by decide +kernel
theorem d_Lw_law_511 : decode m_Lw_law.2.1 511 = .ok (.iload 4, 2) := by decide +kernel
theorem d_Lw_law_513 : decode m_Lw_law.2.1 513 = .ok (.iconst 4, 1) := by decide +kernel
theorem d_Lw_law_514 : decode m_Lw_law.2.1 514 = .ok (.iadd, 1) := by decide +kernel
theorem d_Lw_law_515 : decode m_Lw_law.2.1 515 = .ok (.iaload, 1) := by decide +kernel
theorem d_Lw_law_516 : decode m_Lw_law.2.1 516 = .ok (.invokevirtual 94, 3) := by decide +kernel
theorem d_Lw_law_519 : decode m_Lw_law.2.1 519 = .ok (.istore 6, 2) := by decide +kernel
theorem d_Lw_law_521 : decode m_Lw_law.2.1 521 = .ok (.aload_n 2, 1) := by decide +kernel
theorem d_Lw_law_522 : decode m_Lw_law.2.1 522 = .ok (.invokevirtual 75, 3) := by decide +kernel
theorem d_Lw_law_525 : decode m_Lw_law.2.1 525 = .ok (.iload 5, 2) := by decide +kernel
theorem d_Lw_law_527 : decode m_Lw_law.2.1 527 = .ok (.if_icmp .eq 5, 3) := by decide +kernel
theorem d_Lw_law_530 : decode m_Lw_law.2.1 530 = .ok (.iconst 0, 1) := by decide +kernel
theorem d_Lw_law_531 : decode m_Lw_law.2.1 531 = .ok (.ireturn, 1) := by decide +kernel
theorem d_Lw_law_532 : decode m_Lw_law.2.1 532 = .ok (.iload 5, 2) := by decide +kernel
theorem d_Lw_law_534 : decode m_Lw_law.2.1 534 = .ok (.ifCond .ne 15, 3) := by decide +kernel
theorem d_Lw_law_537 : decode m_Lw_law.2.1 537 = .ok (.aload_n 3, 1) := by decide +kernel
theorem d_Lw_law_538 : decode m_Lw_law.2.1 538 = .ok (.iconst 0, 1) := by decide +kernel
theorem d_Lw_law_539 : decode m_Lw_law.2.1 539 = .ok (.laload, 1) := by decide +kernel
theorem d_Lw_law_540 : decode m_Lw_law.2.1 540 = .ok (.iload 6, 2) := by decide +kernel
theorem d_Lw_law_542 : decode m_Lw_law.2.1 542 = .ok (.i2l, 1) := by decide +kernel
theorem d_Lw_law_543 : decode m_Lw_law.2.1 543 = .ok (.lcmp, 1) := by decide +kernel
theorem d_Lw_law_544 : decode m_Lw_law.2.1 544 = .ok (.ifCond .eq 5, 3) := by decide +kernel
theorem d_Lw_law_547 : decode m_Lw_law.2.1 547 = .ok (.iconst 0, 1) := by decide +kernel
theorem d_Lw_law_548 : decode m_Lw_law.2.1 548 = .ok (.ireturn, 1) := by decide +kernel
theorem d_Lw_law_549 : decode m_Lw_law.2.1 549 = .ok (.goto 679, 3) := by decide +kernel
theorem d_Lw_law_552 : decode m_Lw_law.2.1 552 = .ok (.aload_n 1, 1) := by decide +kernel
theorem d_Lw_law_553 : decode m_Lw_law.2.1 553 = .ok (.aload_n 0, 1) := by decide +kernel
theorem d_Lw_law_554 : decode m_Lw_law.2.1 554 = .ok (.iload 4, 2) := by decide +kernel
theorem d_Lw_law_556 : decode m_Lw_law.2.1 556 = .ok (.iconst 1, 1) := by decide +kernel
theorem d_Lw_law_557 : decode m_Lw_law.2.1 557 = .ok (.iadd, 1) := by decide +kernel
theorem d_Lw_law_558 : decode m_Lw_law.2.1 558 = .ok (.iaload, 1) := by decide +kernel
theorem d_Lw_law_559 : decode m_Lw_law.2.1 559 = .ok (.aload_n 0, 1) := by decide +kernel
theorem d_Lw_law_560 : decode m_Lw_law.2.1 560 = .ok (.iload 4, 2) := by decide +kernel
theorem d_Lw_law_562 : decode m_Lw_law.2.1 562 = .ok (.iconst 2, 1) := by decide +kernel
theorem d_Lw_law_563 : decode m_Lw_law.2.1 563 = .ok (.iadd, 1) := by decide +kernel
theorem d_Lw_law_564 : decode m_Lw_law.2.1 564 = .ok (.iaload, 1) := by decide +kernel
theorem d_Lw_law_565 : decode m_Lw_law.2.1 565 = .ok (.aload_n 0, 1) := by decide +kernel
theorem d_Lw_law_566 : decode m_Lw_law.2.1 566 = .ok (.iload 4, 2) := by decide +kernel
theorem d_Lw_law_568 : decode m_Lw_law.2.1 568 = .ok (.iconst 3, 1) := by decide +kernel
theorem d_Lw_law_569 : decode m_Lw_law.2.1 569 = .ok (.iadd, 1) := by decide +kernel
theorem d_Lw_law_570 : decode m_Lw_law.2.1 570 = .ok (.iaload, 1) := by decide +kernel
theorem d_Lw_law_571 : decode m_Lw_law.2.1 571 = .ok (.aload_n 3, 1) := by decide +kernel
theorem d_Lw_law_572 : decode m_Lw_law.2.1 572 = .ok (.invokestatic 95, 3) := by decide +kernel
theorem d_Lw_law_575 : decode m_Lw_law.2.1 575 = .ok (.istore 5, 2) := by decide +kernel
theorem d_Lw_law_577 : decode m_Lw_law.2.1 577 = .ok (.aload_n 2, 1) := by decide +kernel
theorem d_Lw_law_578 : decode m_Lw_law.2.1 578 = .ok (.aload_n 0, 1) := by decide +kernel
theorem d_Lw_law_579 : decode m_Lw_law.2.1 579 = .ok (.iload 4, 2) := by decide +kernel
theorem d_Lw_law_581 : decode m_Lw_law.2.1 581 = .ok (.iconst 1, 1) := by decide +kernel
theorem d_Lw_law_582 : decode m_Lw_law.2.1 582 = .ok (.iadd, 1) := by decide +kernel
theorem d_Lw_law_583 : decode m_Lw_law.2.1 583 = .ok (.iaload, 1) := by decide +kernel
theorem d_Lw_law_584 : decode m_Lw_law.2.1 584 = .ok (.aload_n 0, 1) := by decide +kernel
theorem d_Lw_law_585 : decode m_Lw_law.2.1 585 = .ok (.iload 4, 2) := by decide +kernel
theorem d_Lw_law_587 : decode m_Lw_law.2.1 587 = .ok (.iconst 2, 1) := by decide +kernel
theorem d_Lw_law_588 : decode m_Lw_law.2.1 588 = .ok (.iadd, 1) := by decide +kernel
theorem d_Lw_law_589 : decode m_Lw_law.2.1 589 = .ok (.iaload, 1) := by decide +kernel
theorem d_Lw_law_590 : decode m_Lw_law.2.1 590 = .ok (.aload_n 0, 1) := by decide +kernel
theorem d_Lw_law_591 : decode m_Lw_law.2.1 591 = .ok (.iload 4, 2) := by decide +kernel
theorem d_Lw_law_593 : decode m_Lw_law.2.1 593 = .ok (.iconst 3, 1) := by decide +kernel
theorem d_Lw_law_594 : decode m_Lw_law.2.1 594 = .ok (.iadd, 1) := by decide +kernel
theorem d_Lw_law_595 : decode m_Lw_law.2.1 595 = .ok (.iaload, 1) := by decide +kernel
theorem d_Lw_law_596 : decode m_Lw_law.2.1 596 = .ok (.invokevirtual 98, 3) := by decide +kernel
theorem d_Lw_law_599 : decode m_Lw_law.2.1 599 = .ok (.istore 6, 2) := by decide +kernel
theorem d_Lw_law_601 : decode m_Lw_law.2.1 601 = .ok (.aload_n 2, 1) := by decide +kernel
theorem d_Lw_law_602 : decode m_Lw_law.2.1 602 = .ok (.invokevirtual 75, 3) := by decide +kernel
theorem d_Lw_law_605 : decode m_Lw_law.2.1 605 = .ok (.iload 5, 2) := by decide +kernel
theorem d_Lw_law_607 : decode m_Lw_law.2.1 607 = .ok (.if_icmp .eq 5, 3) := by decide +kernel
theorem d_Lw_law_610 : decode m_Lw_law.2.1 610 = .ok (.iconst 0, 1) := by decide +kernel
theorem d_Lw_law_611 : decode m_Lw_law.2.1 611 = .ok (.ireturn, 1) := by decide +kernel
theorem d_Lw_law_612 : decode m_Lw_law.2.1 612 = .ok (.iload 5, 2) := by decide +kernel
theorem d_Lw_law_614 : decode m_Lw_law.2.1 614 = .ok (.ifCond .ne 15, 3) := by decide +kernel
theorem d_Lw_law_617 : decode m_Lw_law.2.1 617 = .ok (.aload_n 3, 1) := by decide +kernel
theorem d_Lw_law_618 : decode m_Lw_law.2.1 618 = .ok (.iconst 0, 1) := by decide +kernel
theorem d_Lw_law_619 : decode m_Lw_law.2.1 619 = .ok (.laload, 1) := by decide +kernel
theorem d_Lw_law_620 : decode m_Lw_law.2.1 620 = .ok (.iload 6, 2) := by decide +kernel
theorem d_Lw_law_622 : decode m_Lw_law.2.1 622 = .ok (.i2l, 1) := by decide +kernel
theorem d_Lw_law_623 : decode m_Lw_law.2.1 623 = .ok (.lcmp, 1) := by decide +kernel
theorem d_Lw_law_624 : decode m_Lw_law.2.1 624 = .ok (.ifCond .eq 5, 3) := by decide +kernel
theorem d_Lw_law_627 : decode m_Lw_law.2.1 627 = .ok (.iconst 0, 1) := by decide +kernel
theorem d_Lw_law_628 : decode m_Lw_law.2.1 628 = .ok (.ireturn, 1) := by decide +kernel
theorem d_Lw_law_629 : decode m_Lw_law.2.1 629 = .ok (.goto 599, 3) := by decide +kernel
theorem d_Lw_law_632 : decode m_Lw_law.2.1 632 = .ok (.aload_n 1, 1) := by decide +kernel
theorem d_Lw_law_633 : decode m_Lw_law.2.1 633 = .ok (.aload_n 0, 1) := by decide +kernel
theorem d_Lw_law_634 : decode m_Lw_law.2.1 634 = .ok (.iload 4, 2) := by decide +kernel
theorem d_Lw_law_636 : decode m_Lw_law.2.1 636 = .ok (.iconst 1, 1) := by decide +kernel
theorem d_Lw_law_637 : decode m_Lw_law.2.1 637 = .ok (.iadd, 1) := by decide +kernel
theorem d_Lw_law_638 : decode m_Lw_law.2.1 638 = .ok (.iaload, 1) := by decide +kernel
theorem d_Lw_law_639 : decode m_Lw_law.2.1 639 = .ok (.aload_n 3, 1) := by decide +kernel
theorem d_Lw_law_640 : decode m_Lw_law.2.1 640 = .ok (.invokestatic 99, 3) := by decide +kernel
theorem d_Lw_law_643 : decode m_Lw_law.2.1 643 = .ok (.istore 5, 2) := by decide +kernel
theorem d_Lw_law_645 : decode m_Lw_law.2.1 645 = .ok (.aload_n 2, 1) := by decide +kernel
theorem d_Lw_law_646 : decode m_Lw_law.2.1 646 = .ok (.aload_n 0, 1) := by decide +kernel
theorem d_Lw_law_647 : decode m_Lw_law.2.1 647 = .ok (.iload 4, 2) := by decide +kernel
theorem d_Lw_law_649 : decode m_Lw_law.2.1 649 = .ok (.iconst 1, 1) := by decide +kernel
theorem d_Lw_law_650 : decode m_Lw_law.2.1 650 = .ok (.iadd, 1) := by decide +kernel
theorem d_Lw_law_651 : decode m_Lw_law.2.1 651 = .ok (.iaload, 1) := by decide +kernel
theorem d_Lw_law_652 : decode m_Lw_law.2.1 652 = .ok (.invokevirtual 101, 3) := by decide +kernel
theorem d_Lw_law_655 : decode m_Lw_law.2.1 655 = .ok (.istore 6, 2) := by decide +kernel
theorem d_Lw_law_657 : decode m_Lw_law.2.1 657 = .ok (.aload_n 2, 1) := by decide +kernel
theorem d_Lw_law_658 : decode m_Lw_law.2.1 658 = .ok (.invokevirtual 75, 3) := by decide +kernel
theorem d_Lw_law_661 : decode m_Lw_law.2.1 661 = .ok (.iload 5, 2) := by decide +kernel
theorem d_Lw_law_663 : decode m_Lw_law.2.1 663 = .ok (.if_icmp .eq 5, 3) := by decide +kernel
theorem d_Lw_law_666 : decode m_Lw_law.2.1 666 = .ok (.iconst 0, 1) := by decide +kernel
theorem d_Lw_law_667 : decode m_Lw_law.2.1 667 = .ok (.ireturn, 1) := by decide +kernel
theorem d_Lw_law_668 : decode m_Lw_law.2.1 668 = .ok (.iload 5, 2) := by decide +kernel
theorem d_Lw_law_670 : decode m_Lw_law.2.1 670 = .ok (.ifCond .ne 15, 3) := by decide +kernel
theorem d_Lw_law_673 : decode m_Lw_law.2.1 673 = .ok (.aload_n 3, 1) := by decide +kernel
theorem d_Lw_law_674 : decode m_Lw_law.2.1 674 = .ok (.iconst 0, 1) := by decide +kernel
theorem d_Lw_law_675 : decode m_Lw_law.2.1 675 = .ok (.laload, 1) := by decide +kernel
theorem d_Lw_law_676 : decode m_Lw_law.2.1 676 = .ok (.iload 6, 2) := by decide +kernel
theorem d_Lw_law_678 : decode m_Lw_law.2.1 678 = .ok (.i2l, 1) := by decide +kernel
theorem d_Lw_law_679 : decode m_Lw_law.2.1 679 = .ok (.lcmp, 1) := by decide +kernel
theorem d_Lw_law_680 : decode m_Lw_law.2.1 680 = .ok (.ifCond .eq 5, 3) := by decide +kernel
theorem d_Lw_law_683 : decode m_Lw_law.2.1 683 = .ok (.iconst 0, 1) := by decide +kernel
theorem d_Lw_law_684 : decode m_Lw_law.2.1 684 = .ok (.ireturn, 1) := by decide +kernel
theorem d_Lw_law_685 : decode m_Lw_law.2.1 685 = .ok (.goto 543, 3) := by decide +kernel
theorem d_Lw_law_688 : decode m_Lw_law.2.1 688 = .ok (.aload_n 1, 1) := by decide +kernel
theorem d_Lw_law_689 : decode m_Lw_law.2.1 689 = .ok (.aload_n 0, 1) := by decide +kernel
theorem d_Lw_law_690 : decode m_Lw_law.2.1 690 = .ok (.iload 4, 2) := by decide +kernel
theorem d_Lw_law_692 : decode m_Lw_law.2.1 692 = .ok (.iconst 1, 1) := by decide +kernel
theorem d_Lw_law_693 : decode m_Lw_law.2.1 693 = .ok (.iadd, 1) := by decide +kernel
theorem d_Lw_law_694 : decode m_Lw_law.2.1 694 = .ok (.iaload, 1) := by decide +kernel
theorem d_Lw_law_695 : decode m_Lw_law.2.1 695 = .ok (.aload_n 3, 1) := by decide +kernel
theorem d_Lw_law_696 : decode m_Lw_law.2.1 696 = .ok (.invokestatic 102, 3) := by decide +kernel
theorem d_Lw_law_699 : decode m_Lw_law.2.1 699 = .ok (.istore 5, 2) := by decide +kernel
theorem d_Lw_law_701 : decode m_Lw_law.2.1 701 = .ok (.aload_n 2, 1) := by decide +kernel
theorem d_Lw_law_702 : decode m_Lw_law.2.1 702 = .ok (.aload_n 0, 1) := by decide +kernel
theorem d_Lw_law_703 : decode m_Lw_law.2.1 703 = .ok (.iload 4, 2) := by decide +kernel
theorem d_Lw_law_705 : decode m_Lw_law.2.1 705 = .ok (.iconst 1, 1) := by decide +kernel
theorem d_Lw_law_706 : decode m_Lw_law.2.1 706 = .ok (.iadd, 1) := by decide +kernel
theorem d_Lw_law_707 : decode m_Lw_law.2.1 707 = .ok (.iaload, 1) := by decide +kernel
theorem d_Lw_law_708 : decode m_Lw_law.2.1 708 = .ok (.invokevirtual 104, 3) := by decide +kernel
theorem d_Lw_law_711 : decode m_Lw_law.2.1 711 = .ok (.istore 6, 2) := by decide +kernel
theorem d_Lw_law_713 : decode m_Lw_law.2.1 713 = .ok (.aload_n 2, 1) := by decide +kernel
theorem d_Lw_law_714 : decode m_Lw_law.2.1 714 = .ok (.invokevirtual 75, 3) := by decide +kernel
theorem d_Lw_law_717 : decode m_Lw_law.2.1 717 = .ok (.iload 5, 2) := by decide +kernel
theorem d_Lw_law_719 : decode m_Lw_law.2.1 719 = .ok (.if_icmp .eq 5, 3) := by decide +kernel
theorem d_Lw_law_722 : decode m_Lw_law.2.1 722 = .ok (.iconst 0, 1) := by decide +kernel
theorem d_Lw_law_723 : decode m_Lw_law.2.1 723 = .ok (.ireturn, 1) := by decide +kernel
theorem d_Lw_law_724 : decode m_Lw_law.2.1 724 = .ok (.iload 5, 2) := by decide +kernel
theorem d_Lw_law_726 : decode m_Lw_law.2.1 726 = .ok (.ifCond .ne 15, 3) := by decide +kernel
theorem d_Lw_law_729 : decode m_Lw_law.2.1 729 = .ok (.aload_n 3, 1) := by decide +kernel
theorem d_Lw_law_730 : decode m_Lw_law.2.1 730 = .ok (.iconst 0, 1) := by decide +kernel
theorem d_Lw_law_731 : decode m_Lw_law.2.1 731 = .ok (.laload, 1) := by decide +kernel
theorem d_Lw_law_732 : decode m_Lw_law.2.1 732 = .ok (.iload 6, 2) := by decide +kernel
theorem d_Lw_law_734 : decode m_Lw_law.2.1 734 = .ok (.i2l, 1) := by decide +kernel
theorem d_Lw_law_735 : decode m_Lw_law.2.1 735 = .ok (.lcmp, 1) := by decide +kernel
theorem d_Lw_law_736 : decode m_Lw_law.2.1 736 = .ok (.ifCond .eq 5, 3) := by decide +kernel
theorem d_Lw_law_739 : decode m_Lw_law.2.1 739 = .ok (.iconst 0, 1) := by decide +kernel
theorem d_Lw_law_740 : decode m_Lw_law.2.1 740 = .ok (.ireturn, 1) := by decide +kernel
theorem d_Lw_law_741 : decode m_Lw_law.2.1 741 = .ok (.goto 487, 3) := by decide +kernel
theorem d_Lw_law_744 : decode m_Lw_law.2.1 744 = .ok (.aload_n 1, 1) := by decide +kernel
theorem d_Lw_law_745 : decode m_Lw_law.2.1 745 = .ok (.aload_n 0, 1) := by decide +kernel
theorem d_Lw_law_746 : decode m_Lw_law.2.1 746 = .ok (.iload 4, 2) := by decide +kernel
theorem d_Lw_law_748 : decode m_Lw_law.2.1 748 = .ok (.iconst 1, 1) := by decide +kernel
theorem d_Lw_law_749 : decode m_Lw_law.2.1 749 = .ok (.iadd, 1) := by decide +kernel
theorem d_Lw_law_750 : decode m_Lw_law.2.1 750 = .ok (.iaload, 1) := by decide +kernel
theorem d_Lw_law_751 : decode m_Lw_law.2.1 751 = .ok (.aload_n 0, 1) := by decide +kernel
theorem d_Lw_law_752 : decode m_Lw_law.2.1 752 = .ok (.iload 4, 2) := by decide +kernel
theorem d_Lw_law_754 : decode m_Lw_law.2.1 754 = .ok (.iconst 2, 1) := by decide +kernel
theorem d_Lw_law_755 : decode m_Lw_law.2.1 755 = .ok (.iadd, 1) := by decide +kernel
theorem d_Lw_law_756 : decode m_Lw_law.2.1 756 = .ok (.iaload, 1) := by decide +kernel
theorem d_Lw_law_757 : decode m_Lw_law.2.1 757 = .ok (.aload_n 3, 1) := by decide +kernel
theorem d_Lw_law_758 : decode m_Lw_law.2.1 758 = .ok (.invokestatic 105, 3) := by decide +kernel
theorem d_Lw_law_761 : decode m_Lw_law.2.1 761 = .ok (.istore 5, 2) := by decide +kernel
theorem d_Lw_law_763 : decode m_Lw_law.2.1 763 = .ok (.aload_n 2, 1) := by decide +kernel
theorem d_Lw_law_764 : decode m_Lw_law.2.1 764 = .ok (.aload_n 0, 1) := by decide +kernel
theorem d_Lw_law_765 : decode m_Lw_law.2.1 765 = .ok (.iload 4, 2) := by decide +kernel
theorem d_Lw_law_767 : decode m_Lw_law.2.1 767 = .ok (.iconst 1, 1) := by decide +kernel
theorem d_Lw_law_768 : decode m_Lw_law.2.1 768 = .ok (.iadd, 1) := by decide +kernel
theorem d_Lw_law_769 : decode m_Lw_law.2.1 769 = .ok (.iaload, 1) := by decide +kernel
theorem d_Lw_law_770 : decode m_Lw_law.2.1 770 = .ok (.aload_n 0, 1) := by decide +kernel
theorem d_Lw_law_771 : decode m_Lw_law.2.1 771 = .ok (.iload 4, 2) := by decide +kernel
theorem d_Lw_law_773 : decode m_Lw_law.2.1 773 = .ok (.iconst 2, 1) := by decide +kernel
theorem d_Lw_law_774 : decode m_Lw_law.2.1 774 = .ok (.iadd, 1) := by decide +kernel
theorem d_Lw_law_775 : decode m_Lw_law.2.1 775 = .ok (.iaload, 1) := by decide +kernel
theorem d_Lw_law_776 : decode m_Lw_law.2.1 776 = .ok (.invokevirtual 107, 3) := by decide +kernel
theorem d_Lw_law_779 : decode m_Lw_law.2.1 779 = .ok (.istore 6, 2) := by decide +kernel
theorem d_Lw_law_781 : decode m_Lw_law.2.1 781 = .ok (.aload_n 2, 1) := by decide +kernel
theorem d_Lw_law_782 : decode m_Lw_law.2.1 782 = .ok (.invokevirtual 75, 3) := by decide +kernel
theorem d_Lw_law_785 : decode m_Lw_law.2.1 785 = .ok (.iload 5, 2) := by decide +kernel
theorem d_Lw_law_787 : decode m_Lw_law.2.1 787 = .ok (.if_icmp .eq 5, 3) := by decide +kernel
theorem d_Lw_law_790 : decode m_Lw_law.2.1 790 = .ok (.iconst 0, 1) := by decide +kernel
theorem d_Lw_law_791 : decode m_Lw_law.2.1 791 = .ok (.ireturn, 1) := by decide +kernel
theorem d_Lw_law_792 : decode m_Lw_law.2.1 792 = .ok (.iload 5, 2) := by decide +kernel
theorem d_Lw_law_794 : decode m_Lw_law.2.1 794 = .ok (.ifCond .ne 15, 3) := by decide +kernel
theorem d_Lw_law_797 : decode m_Lw_law.2.1 797 = .ok (.aload_n 3, 1) := by decide +kernel
theorem d_Lw_law_798 : decode m_Lw_law.2.1 798 = .ok (.iconst 0, 1) := by decide +kernel
theorem d_Lw_law_799 : decode m_Lw_law.2.1 799 = .ok (.laload, 1) := by decide +kernel
theorem d_Lw_law_800 : decode m_Lw_law.2.1 800 = .ok (.iload 6, 2) := by decide +kernel
theorem d_Lw_law_802 : decode m_Lw_law.2.1 802 = .ok (.i2l, 1) := by decide +kernel
theorem d_Lw_law_803 : decode m_Lw_law.2.1 803 = .ok (.lcmp, 1) := by decide +kernel
theorem d_Lw_law_804 : decode m_Lw_law.2.1 804 = .ok (.ifCond .eq 5, 3) := by decide +kernel
theorem d_Lw_law_807 : decode m_Lw_law.2.1 807 = .ok (.iconst 0, 1) := by decide +kernel
theorem d_Lw_law_808 : decode m_Lw_law.2.1 808 = .ok (.ireturn, 1) := by decide +kernel
theorem d_Lw_law_809 : decode m_Lw_law.2.1 809 = .ok (.goto 419, 3) := by decide +kernel
theorem d_Lw_law_812 : decode m_Lw_law.2.1 812 = .ok (.aload_n 1, 1) := by decide +kernel
theorem d_Lw_law_813 : decode m_Lw_law.2.1 813 = .ok (.aload_n 0, 1) := by decide +kernel
theorem d_Lw_law_814 : decode m_Lw_law.2.1 814 = .ok (.iload 4, 2) := by decide +kernel
theorem d_Lw_law_816 : decode m_Lw_law.2.1 816 = .ok (.iconst 1, 1) := by decide +kernel
theorem d_Lw_law_817 : decode m_Lw_law.2.1 817 = .ok (.iadd, 1) := by decide +kernel
theorem d_Lw_law_818 : decode m_Lw_law.2.1 818 = .ok (.iaload, 1) := by decide +kernel
theorem d_Lw_law_819 : decode m_Lw_law.2.1 819 = .ok (.aload_n 3, 1) := by decide +kernel
theorem d_Lw_law_820 : decode m_Lw_law.2.1 820 = .ok (.invokestatic 108, 3) := by decide +kernel
theorem d_Lw_law_823 : decode m_Lw_law.2.1 823 = .ok (.istore 5, 2) := by decide +kernel
theorem d_Lw_law_825 : decode m_Lw_law.2.1 825 = .ok (.aload_n 2, 1) := by decide +kernel
theorem d_Lw_law_826 : decode m_Lw_law.2.1 826 = .ok (.aload_n 0, 1) := by decide +kernel
theorem d_Lw_law_827 : decode m_Lw_law.2.1 827 = .ok (.iload 4, 2) := by decide +kernel
theorem d_Lw_law_829 : decode m_Lw_law.2.1 829 = .ok (.iconst 1, 1) := by decide +kernel
theorem d_Lw_law_830 : decode m_Lw_law.2.1 830 = .ok (.iadd, 1) := by decide +kernel
theorem d_Lw_law_831 : decode m_Lw_law.2.1 831 = .ok (.iaload, 1) := by decide +kernel
theorem d_Lw_law_832 : decode m_Lw_law.2.1 832 = .ok (.invokevirtual 110, 3) := by decide +kernel
theorem d_Lw_law_835 : decode m_Lw_law.2.1 835 = .ok (.istore 6, 2) := by decide +kernel
theorem d_Lw_law_837 : decode m_Lw_law.2.1 837 = .ok (.aload_n 2, 1) := by decide +kernel
theorem d_Lw_law_838 : decode m_Lw_law.2.1 838 = .ok (.invokevirtual 75, 3) := by decide +kernel
theorem d_Lw_law_841 : decode m_Lw_law.2.1 841 = .ok (.iload 5, 2) := by decide +kernel
theorem d_Lw_law_843 : decode m_Lw_law.2.1 843 = .ok (.if_icmp .eq 5, 3) := by decide +kernel
theorem d_Lw_law_846 : decode m_Lw_law.2.1 846 = .ok (.iconst 0, 1) := by decide +kernel
theorem d_Lw_law_847 : decode m_Lw_law.2.1 847 = .ok (.ireturn, 1) := by decide +kernel
theorem d_Lw_law_848 : decode m_Lw_law.2.1 848 = .ok (.iload 5, 2) := by decide +kernel
theorem d_Lw_law_850 : decode m_Lw_law.2.1 850 = .ok (.ifCond .ne 15, 3) := by decide +kernel
theorem d_Lw_law_853 : decode m_Lw_law.2.1 853 = .ok (.aload_n 3, 1) := by decide +kernel
theorem d_Lw_law_854 : decode m_Lw_law.2.1 854 = .ok (.iconst 0, 1) := by decide +kernel
theorem d_Lw_law_855 : decode m_Lw_law.2.1 855 = .ok (.laload, 1) := by decide +kernel
theorem d_Lw_law_856 : decode m_Lw_law.2.1 856 = .ok (.iload 6, 2) := by decide +kernel
theorem d_Lw_law_858 : decode m_Lw_law.2.1 858 = .ok (.i2l, 1) := by decide +kernel
theorem d_Lw_law_859 : decode m_Lw_law.2.1 859 = .ok (.lcmp, 1) := by decide +kernel
theorem d_Lw_law_860 : decode m_Lw_law.2.1 860 = .ok (.ifCond .eq 5, 3) := by decide +kernel
theorem d_Lw_law_863 : decode m_Lw_law.2.1 863 = .ok (.iconst 0, 1) := by decide +kernel
theorem d_Lw_law_864 : decode m_Lw_law.2.1 864 = .ok (.ireturn, 1) := by decide +kernel
theorem d_Lw_law_865 : decode m_Lw_law.2.1 865 = .ok (.goto 363, 3) := by decide +kernel
theorem d_Lw_law_868 : decode m_Lw_law.2.1 868 = .ok (.aload_n 1, 1) := by decide +kernel
theorem d_Lw_law_869 : decode m_Lw_law.2.1 869 = .ok (.aload_n 0, 1) := by decide +kernel
theorem d_Lw_law_870 : decode m_Lw_law.2.1 870 = .ok (.iload 4, 2) := by decide +kernel
theorem d_Lw_law_872 : decode m_Lw_law.2.1 872 = .ok (.iconst 1, 1) := by decide +kernel
theorem d_Lw_law_873 : decode m_Lw_law.2.1 873 = .ok (.iadd, 1) := by decide +kernel
theorem d_Lw_law_874 : decode m_Lw_law.2.1 874 = .ok (.iaload, 1) := by decide +kernel
theorem d_Lw_law_875 : decode m_Lw_law.2.1 875 = .ok (.aload_n 3, 1) := by decide +kernel
theorem d_Lw_law_876 : decode m_Lw_law.2.1 876 = .ok (.invokestatic 111, 3) := by decide +kernel
theorem d_Lw_law_879 : decode m_Lw_law.2.1 879 = .ok (.istore 5, 2) := by decide +kernel
theorem d_Lw_law_881 : decode m_Lw_law.2.1 881 = .ok (.aload_n 2, 1) := by decide +kernel
theorem d_Lw_law_882 : decode m_Lw_law.2.1 882 = .ok (.aload_n 0, 1) := by decide +kernel
theorem d_Lw_law_883 : decode m_Lw_law.2.1 883 = .ok (.iload 4, 2) := by decide +kernel
theorem d_Lw_law_885 : decode m_Lw_law.2.1 885 = .ok (.iconst 1, 1) := by decide +kernel
theorem d_Lw_law_886 : decode m_Lw_law.2.1 886 = .ok (.iadd, 1) := by decide +kernel
theorem d_Lw_law_887 : decode m_Lw_law.2.1 887 = .ok (.iaload, 1) := by decide +kernel
theorem d_Lw_law_888 : decode m_Lw_law.2.1 888 = .ok (.invokevirtual 113, 3) := by decide +kernel
theorem d_Lw_law_891 : decode m_Lw_law.2.1 891 = .ok (.istore 6, 2) := by decide +kernel
theorem d_Lw_law_893 : decode m_Lw_law.2.1 893 = .ok (.aload_n 2, 1) := by decide +kernel
theorem d_Lw_law_894 : decode m_Lw_law.2.1 894 = .ok (.invokevirtual 75, 3) := by decide +kernel
theorem d_Lw_law_897 : decode m_Lw_law.2.1 897 = .ok (.iload 5, 2) := by decide +kernel
theorem d_Lw_law_899 : decode m_Lw_law.2.1 899 = .ok (.if_icmp .eq 5, 3) := by decide +kernel
theorem d_Lw_law_902 : decode m_Lw_law.2.1 902 = .ok (.iconst 0, 1) := by decide +kernel
theorem d_Lw_law_903 : decode m_Lw_law.2.1 903 = .ok (.ireturn, 1) := by decide +kernel
theorem d_Lw_law_904 : decode m_Lw_law.2.1 904 = .ok (.iload 5, 2) := by decide +kernel
theorem d_Lw_law_906 : decode m_Lw_law.2.1 906 = .ok (.ifCond .ne 15, 3) := by decide +kernel
theorem d_Lw_law_909 : decode m_Lw_law.2.1 909 = .ok (.aload_n 3, 1) := by decide +kernel
theorem d_Lw_law_910 : decode m_Lw_law.2.1 910 = .ok (.iconst 0, 1) := by decide +kernel
theorem d_Lw_law_911 : decode m_Lw_law.2.1 911 = .ok (.laload, 1) := by decide +kernel
theorem d_Lw_law_912 : decode m_Lw_law.2.1 912 = .ok (.iload 6, 2) := by decide +kernel
theorem d_Lw_law_914 : decode m_Lw_law.2.1 914 = .ok (.i2l, 1) := by decide +kernel
theorem d_Lw_law_915 : decode m_Lw_law.2.1 915 = .ok (.lcmp, 1) := by decide +kernel
theorem d_Lw_law_916 : decode m_Lw_law.2.1 916 = .ok (.ifCond .eq 5, 3) := by decide +kernel
theorem d_Lw_law_919 : decode m_Lw_law.2.1 919 = .ok (.iconst 0, 1) := by decide +kernel
theorem d_Lw_law_920 : decode m_Lw_law.2.1 920 = .ok (.ireturn, 1) := by decide +kernel
end
section
theorem d_Lw_law_921 : decode m_Lw_law.2.1 921 = .ok (.goto 307, 3) := by decide +kernel
theorem d_Lw_law_924 : decode m_Lw_law.2.1 924 = .ok (.aload_n 1, 1) := by decide +kernel
theorem d_Lw_law_925 : decode m_Lw_law.2.1 925 = .ok (.aload_n 0, 1) := by decide +kernel
theorem d_Lw_law_926 : decode m_Lw_law.2.1 926 = .ok (.iload 4, 2) := by decide +kernel
theorem d_Lw_law_928 : decode m_Lw_law.2.1 928 = .ok (.iconst 1, 1) := by decide +kernel
theorem d_Lw_law_929 : decode m_Lw_law.2.1 929 = .ok (.iadd, 1) := by decide +kernel
theorem d_Lw_law_930 : decode m_Lw_law.2.1 930 = .ok (.iaload, 1) := by decide +kernel
theorem d_Lw_law_931 : decode m_Lw_law.2.1 931 = .ok (.aload_n 0, 1) := by decide +kernel
theorem d_Lw_law_932 : decode m_Lw_law.2.1 932 = .ok (.iload 4, 2) := by decide +kernel
theorem d_Lw_law_934 : decode m_Lw_law.2.1 934 = .ok (.iconst 2, 1) := by decide +kernel
theorem d_Lw_law_935 : decode m_Lw_law.2.1 935 = .ok (.iadd, 1) := by decide +kernel
theorem d_Lw_law_936 : decode m_Lw_law.2.1 936 = .ok (.iaload, 1) := by decide +kernel
theorem d_Lw_law_937 : decode m_Lw_law.2.1 937 = .ok (.aload_n 3, 1) := by decide +kernel
theorem d_Lw_law_938 : decode m_Lw_law.2.1 938 = .ok (.invokestatic 114, 3) := by decide +kernel
theorem d_Lw_law_941 : decode m_Lw_law.2.1 941 = .ok (.istore 5, 2) := by decide +kernel
theorem d_Lw_law_943 : decode m_Lw_law.2.1 943 = .ok (.aload_n 2, 1) := by decide +kernel
theorem d_Lw_law_944 : decode m_Lw_law.2.1 944 = .ok (.aload_n 0, 1) := by decide +kernel
theorem d_Lw_law_945 : decode m_Lw_law.2.1 945 = .ok (.iload 4, 2) := by decide +kernel
theorem d_Lw_law_947 : decode m_Lw_law.2.1 947 = .ok (.iconst 1, 1) := by decide +kernel
theorem d_Lw_law_948 : decode m_Lw_law.2.1 948 = .ok (.iadd, 1) := by decide +kernel
theorem d_Lw_law_949 : decode m_Lw_law.2.1 949 = .ok (.iaload, 1) := by decide +kernel
theorem d_Lw_law_950 : decode m_Lw_law.2.1 950 = .ok (.aload_n 0, 1) := by decide +kernel
theorem d_Lw_law_951 : decode m_Lw_law.2.1 951 = .ok (.iload 4, 2) := by decide +kernel
theorem d_Lw_law_953 : decode m_Lw_law.2.1 953 = .ok (.iconst 2, 1) := by decide +kernel
theorem d_Lw_law_954 : decode m_Lw_law.2.1 954 = .ok (.iadd, 1) := by decide +kernel
theorem d_Lw_law_955 : decode m_Lw_law.2.1 955 = .ok (.iaload, 1) := by decide +kernel
theorem d_Lw_law_956 : decode m_Lw_law.2.1 956 = .ok (.invokevirtual 116, 3) := by decide +kernel
theorem d_Lw_law_959 : decode m_Lw_law.2.1 959 = .ok (.istore 6, 2) := by decide +kernel
theorem d_Lw_law_961 : decode m_Lw_law.2.1 961 = .ok (.aload_n 2, 1) := by decide +kernel
theorem d_Lw_law_962 : decode m_Lw_law.2.1 962 = .ok (.invokevirtual 75, 3) := by decide +kernel
theorem d_Lw_law_965 : decode m_Lw_law.2.1 965 = .ok (.iload 5, 2) := by decide +kernel
theorem d_Lw_law_967 : decode m_Lw_law.2.1 967 = .ok (.if_icmp .eq 5, 3) := by decide +kernel
theorem d_Lw_law_970 : decode m_Lw_law.2.1 970 = .ok (.iconst 0, 1) := by decide +kernel
theorem d_Lw_law_971 : decode m_Lw_law.2.1 971 = .ok (.ireturn, 1) := by decide +kernel
theorem d_Lw_law_972 : decode m_Lw_law.2.1 972 = .ok (.iload 5, 2) := by decide +kernel
theorem d_Lw_law_974 : decode m_Lw_law.2.1 974 = .ok (.ifCond .ne 15, 3) := by decide +kernel
theorem d_Lw_law_977 : decode m_Lw_law.2.1 977 = .ok (.aload_n 3, 1) := by decide +kernel
theorem d_Lw_law_978 : decode m_Lw_law.2.1 978 = .ok (.iconst 0, 1) := by decide +kernel
theorem d_Lw_law_979 : decode m_Lw_law.2.1 979 = .ok (.laload, 1) := by decide +kernel
theorem d_Lw_law_980 : decode m_Lw_law.2.1 980 = .ok (.iload 6, 2) := by decide +kernel
theorem d_Lw_law_982 : decode m_Lw_law.2.1 982 = .ok (.i2l, 1) := by decide +kernel
theorem d_Lw_law_983 : decode m_Lw_law.2.1 983 = .ok (.lcmp, 1) := by decide +kernel
theorem d_Lw_law_984 : decode m_Lw_law.2.1 984 = .ok (.ifCond .eq 5, 3) := by decide +kernel
theorem d_Lw_law_987 : decode m_Lw_law.2.1 987 = .ok (.iconst 0, 1) := by decide +kernel
theorem d_Lw_law_988 : decode m_Lw_law.2.1 988 = .ok (.ireturn, 1) := by decide +kernel
theorem d_Lw_law_989 : decode m_Lw_law.2.1 989 = .ok (.goto 239, 3) := by decide +kernel
theorem d_Lw_law_992 : decode m_Lw_law.2.1 992 = .ok (.aload_n 1, 1) := by decide +kernel
theorem d_Lw_law_993 : decode m_Lw_law.2.1 993 = .ok (.aload_n 0, 1) := by decide +kernel
theorem d_Lw_law_994 : decode m_Lw_law.2.1 994 = .ok (.iload 4, 2) := by decide +kernel
theorem d_Lw_law_996 : decode m_Lw_law.2.1 996 = .ok (.iconst 1, 1) := by decide +kernel
theorem d_Lw_law_997 : decode m_Lw_law.2.1 997 = .ok (.iadd, 1) := by decide +kernel
theorem d_Lw_law_998 : decode m_Lw_law.2.1 998 = .ok (.iaload, 1) := by decide +kernel
theorem d_Lw_law_999 : decode m_Lw_law.2.1 999 = .ok (.aload_n 0, 1) := by decide +kernel
theorem d_Lw_law_1000 : decode m_Lw_law.2.1 1000 = .ok (.iload 4, 2) := by decide +kernel
theorem d_Lw_law_1002 : decode m_Lw_law.2.1 1002 = .ok (.iconst 2, 1) := by decide +kernel
theorem d_Lw_law_1003 : decode m_Lw_law.2.1 1003 = .ok (.iadd, 1) := by decide +kernel
theorem d_Lw_law_1004 : decode m_Lw_law.2.1 1004 = .ok (.iaload, 1) := by decide +kernel
theorem d_Lw_law_1005 : decode m_Lw_law.2.1 1005 = .ok (.invokevirtual 117, 3) := by decide +kernel
theorem d_Lw_law_1008 : decode m_Lw_law.2.1 1008 = .ok (.aload_n 2, 1) := by decide +kernel
theorem d_Lw_law_1009 : decode m_Lw_law.2.1 1009 = .ok (.aload_n 0, 1) := by decide +kernel
theorem d_Lw_law_1010 : decode m_Lw_law.2.1 1010 = .ok (.iload 4, 2) := by decide +kernel
theorem d_Lw_law_1012 : decode m_Lw_law.2.1 1012 = .ok (.iconst 1, 1) := by decide +kernel
theorem d_Lw_law_1013 : decode m_Lw_law.2.1 1013 = .ok (.iadd, 1) := by decide +kernel
theorem d_Lw_law_1014 : decode m_Lw_law.2.1 1014 = .ok (.iaload, 1) := by decide +kernel
theorem d_Lw_law_1015 : decode m_Lw_law.2.1 1015 = .ok (.aload_n 0, 1) := by decide +kernel
theorem d_Lw_law_1016 : decode m_Lw_law.2.1 1016 = .ok (.iload 4, 2) := by decide +kernel
theorem d_Lw_law_1018 : decode m_Lw_law.2.1 1018 = .ok (.iconst 2, 1) := by decide +kernel
theorem d_Lw_law_1019 : decode m_Lw_law.2.1 1019 = .ok (.iadd, 1) := by decide +kernel
theorem d_Lw_law_1020 : decode m_Lw_law.2.1 1020 = .ok (.iaload, 1) := by decide +kernel
theorem d_Lw_law_1021 : decode m_Lw_law.2.1 1021 = .ok (.invokevirtual 120, 3) := by decide +kernel
theorem d_Lw_law_1024 : decode m_Lw_law.2.1 1024 = .ok (.if_icmp .eq 204, 3) := by decide +kernel
theorem d_Lw_law_1027 : decode m_Lw_law.2.1 1027 = .ok (.iconst 0, 1) := by decide +kernel
theorem d_Lw_law_1028 : decode m_Lw_law.2.1 1028 = .ok (.ireturn, 1) := by decide +kernel
theorem d_Lw_law_1029 : decode m_Lw_law.2.1 1029 = .ok (.aload_n 1, 1) := by decide +kernel
theorem d_Lw_law_1030 : decode m_Lw_law.2.1 1030 = .ok (.aload_n 0, 1) := by decide +kernel
theorem d_Lw_law_1031 : decode m_Lw_law.2.1 1031 = .ok (.iload 4, 2) := by decide +kernel
theorem d_Lw_law_1033 : decode m_Lw_law.2.1 1033 = .ok (.iconst 1, 1) := by decide +kernel
theorem d_Lw_law_1034 : decode m_Lw_law.2.1 1034 = .ok (.iadd, 1) := by decide +kernel
theorem d_Lw_law_1035 : decode m_Lw_law.2.1 1035 = .ok (.iaload, 1) := by decide +kernel
theorem d_Lw_law_1036 : decode m_Lw_law.2.1 1036 = .ok (.aload_n 0, 1) := by decide +kernel
theorem d_Lw_law_1037 : decode m_Lw_law.2.1 1037 = .ok (.iload 4, 2) := by decide +kernel
theorem d_Lw_law_1039 : decode m_Lw_law.2.1 1039 = .ok (.iconst 2, 1) := by decide +kernel
theorem d_Lw_law_1040 : decode m_Lw_law.2.1 1040 = .ok (.iadd, 1) := by decide +kernel
theorem d_Lw_law_1041 : decode m_Lw_law.2.1 1041 = .ok (.iaload, 1) := by decide +kernel
theorem d_Lw_law_1042 : decode m_Lw_law.2.1 1042 = .ok (.aload_n 0, 1) := by decide +kernel
theorem d_Lw_law_1043 : decode m_Lw_law.2.1 1043 = .ok (.iload 4, 2) := by decide +kernel
theorem d_Lw_law_1045 : decode m_Lw_law.2.1 1045 = .ok (.iconst 3, 1) := by decide +kernel
theorem d_Lw_law_1046 : decode m_Lw_law.2.1 1046 = .ok (.iadd, 1) := by decide +kernel
theorem d_Lw_law_1047 : decode m_Lw_law.2.1 1047 = .ok (.iaload, 1) := by decide +kernel
theorem d_Lw_law_1048 : decode m_Lw_law.2.1 1048 = .ok (.aload_n 3, 1) := by decide +kernel
theorem d_Lw_law_1049 : decode m_Lw_law.2.1 1049 = .ok (.invokestatic 121, 3) := by decide +kernel
theorem d_Lw_law_1052 : decode m_Lw_law.2.1 1052 = .ok (.istore 5, 2) := by decide +kernel
theorem d_Lw_law_1054 : decode m_Lw_law.2.1 1054 = .ok (.aload_n 2, 1) := by decide +kernel
theorem d_Lw_law_1055 : decode m_Lw_law.2.1 1055 = .ok (.aload_n 0, 1) := by decide +kernel
theorem d_Lw_law_1056 : decode m_Lw_law.2.1 1056 = .ok (.iload 4, 2) := by decide +kernel
theorem d_Lw_law_1058 : decode m_Lw_law.2.1 1058 = .ok (.iconst 1, 1) := by decide +kernel
theorem d_Lw_law_1059 : decode m_Lw_law.2.1 1059 = .ok (.iadd, 1) := by decide +kernel
theorem d_Lw_law_1060 : decode m_Lw_law.2.1 1060 = .ok (.iaload, 1) := by decide +kernel
theorem d_Lw_law_1061 : decode m_Lw_law.2.1 1061 = .ok (.aload_n 0, 1) := by decide +kernel
theorem d_Lw_law_1062 : decode m_Lw_law.2.1 1062 = .ok (.iload 4, 2) := by decide +kernel
theorem d_Lw_law_1064 : decode m_Lw_law.2.1 1064 = .ok (.iconst 2, 1) := by decide +kernel
theorem d_Lw_law_1065 : decode m_Lw_law.2.1 1065 = .ok (.iadd, 1) := by decide +kernel
theorem d_Lw_law_1066 : decode m_Lw_law.2.1 1066 = .ok (.iaload, 1) := by decide +kernel
theorem d_Lw_law_1067 : decode m_Lw_law.2.1 1067 = .ok (.aload_n 0, 1) := by decide +kernel
theorem d_Lw_law_1068 : decode m_Lw_law.2.1 1068 = .ok (.iload 4, 2) := by decide +kernel
theorem d_Lw_law_1070 : decode m_Lw_law.2.1 1070 = .ok (.iconst 3, 1) := by decide +kernel
theorem d_Lw_law_1071 : decode m_Lw_law.2.1 1071 = .ok (.iadd, 1) := by decide +kernel
theorem d_Lw_law_1072 : decode m_Lw_law.2.1 1072 = .ok (.iaload, 1) := by decide +kernel
theorem d_Lw_law_1073 : decode m_Lw_law.2.1 1073 = .ok (.invokevirtual 123, 3) := by decide +kernel
theorem d_Lw_law_1076 : decode m_Lw_law.2.1 1076 = .ok (.istore 6, 2) := by decide +kernel
theorem d_Lw_law_1078 : decode m_Lw_law.2.1 1078 = .ok (.aload_n 2, 1) := by decide +kernel
theorem d_Lw_law_1079 : decode m_Lw_law.2.1 1079 = .ok (.invokevirtual 75, 3) := by decide +kernel
theorem d_Lw_law_1082 : decode m_Lw_law.2.1 1082 = .ok (.iload 5, 2) := by decide +kernel
theorem d_Lw_law_1084 : decode m_Lw_law.2.1 1084 = .ok (.if_icmp .eq 5, 3) := by decide +kernel
theorem d_Lw_law_1087 : decode m_Lw_law.2.1 1087 = .ok (.iconst 0, 1) := by decide +kernel
theorem d_Lw_law_1088 : decode m_Lw_law.2.1 1088 = .ok (.ireturn, 1) := by decide +kernel
theorem d_Lw_law_1089 : decode m_Lw_law.2.1 1089 = .ok (.iload 5, 2) := by decide +kernel
theorem d_Lw_law_1091 : decode m_Lw_law.2.1 1091 = .ok (.ifCond .ne 15, 3) := by decide +kernel
theorem d_Lw_law_1094 : decode m_Lw_law.2.1 1094 = .ok (.aload_n 3, 1) := by decide +kernel
theorem d_Lw_law_1095 : decode m_Lw_law.2.1 1095 = .ok (.iconst 0, 1) := by decide +kernel
theorem d_Lw_law_1096 : decode m_Lw_law.2.1 1096 = .ok (.laload, 1) := by decide +kernel
theorem d_Lw_law_1097 : decode m_Lw_law.2.1 1097 = .ok (.iload 6, 2) := by decide +kernel
theorem d_Lw_law_1099 : decode m_Lw_law.2.1 1099 = .ok (.i2l, 1) := by decide +kernel
theorem d_Lw_law_1100 : decode m_Lw_law.2.1 1100 = .ok (.lcmp, 1) := by decide +kernel
theorem d_Lw_law_1101 : decode m_Lw_law.2.1 1101 = .ok (.ifCond .eq 5, 3) := by decide +kernel
theorem d_Lw_law_1104 : decode m_Lw_law.2.1 1104 = .ok (.iconst 0, 1) := by decide +kernel
theorem d_Lw_law_1105 : decode m_Lw_law.2.1 1105 = .ok (.ireturn, 1) := by decide +kernel
theorem d_Lw_law_1106 : decode m_Lw_law.2.1 1106 = .ok (.goto 122, 3) := by decide +kernel
theorem d_Lw_law_1109 : decode m_Lw_law.2.1 1109 = .ok (.aload_n 1, 1) := by decide +kernel
theorem d_Lw_law_1110 : decode m_Lw_law.2.1 1110 = .ok (.aload_n 0, 1) := by decide +kernel
theorem d_Lw_law_1111 : decode m_Lw_law.2.1 1111 = .ok (.iload 4, 2) := by decide +kernel
theorem d_Lw_law_1113 : decode m_Lw_law.2.1 1113 = .ok (.iconst 1, 1) := by decide +kernel
theorem d_Lw_law_1114 : decode m_Lw_law.2.1 1114 = .ok (.iadd, 1) := by decide +kernel
theorem d_Lw_law_1115 : decode m_Lw_law.2.1 1115 = .ok (.iaload, 1) := by decide +kernel
theorem d_Lw_law_1116 : decode m_Lw_law.2.1 1116 = .ok (.aload_n 0, 1) := by decide +kernel
theorem d_Lw_law_1117 : decode m_Lw_law.2.1 1117 = .ok (.iload 4, 2) := by decide +kernel
theorem d_Lw_law_1119 : decode m_Lw_law.2.1 1119 = .ok (.iconst 2, 1) := by decide +kernel
theorem d_Lw_law_1120 : decode m_Lw_law.2.1 1120 = .ok (.iadd, 1) := by decide +kernel
theorem d_Lw_law_1121 : decode m_Lw_law.2.1 1121 = .ok (.iaload, 1) := by decide +kernel
theorem d_Lw_law_1122 : decode m_Lw_law.2.1 1122 = .ok (.aload_n 3, 1) := by decide +kernel
theorem d_Lw_law_1123 : decode m_Lw_law.2.1 1123 = .ok (.invokestatic 124, 3) := by decide +kernel
theorem d_Lw_law_1126 : decode m_Lw_law.2.1 1126 = .ok (.istore 5, 2) := by decide +kernel
theorem d_Lw_law_1128 : decode m_Lw_law.2.1 1128 = .ok (.aload_n 2, 1) := by decide +kernel
theorem d_Lw_law_1129 : decode m_Lw_law.2.1 1129 = .ok (.aload_n 0, 1) := by decide +kernel
theorem d_Lw_law_1130 : decode m_Lw_law.2.1 1130 = .ok (.iload 4, 2) := by decide +kernel
theorem d_Lw_law_1132 : decode m_Lw_law.2.1 1132 = .ok (.iconst 1, 1) := by decide +kernel
theorem d_Lw_law_1133 : decode m_Lw_law.2.1 1133 = .ok (.iadd, 1) := by decide +kernel
theorem d_Lw_law_1134 : decode m_Lw_law.2.1 1134 = .ok (.iaload, 1) := by decide +kernel
theorem d_Lw_law_1135 : decode m_Lw_law.2.1 1135 = .ok (.aload_n 0, 1) := by decide +kernel
theorem d_Lw_law_1136 : decode m_Lw_law.2.1 1136 = .ok (.iload 4, 2) := by decide +kernel
theorem d_Lw_law_1138 : decode m_Lw_law.2.1 1138 = .ok (.iconst 2, 1) := by decide +kernel
theorem d_Lw_law_1139 : decode m_Lw_law.2.1 1139 = .ok (.iadd, 1) := by decide +kernel
theorem d_Lw_law_1140 : decode m_Lw_law.2.1 1140 = .ok (.iaload, 1) := by decide +kernel
theorem d_Lw_law_1141 : decode m_Lw_law.2.1 1141 = .ok (.invokevirtual 126, 3) := by decide +kernel
theorem d_Lw_law_1144 : decode m_Lw_law.2.1 1144 = .ok (.istore 6, 2) := by decide +kernel
theorem d_Lw_law_1146 : decode m_Lw_law.2.1 1146 = .ok (.aload_n 2, 1) := by decide +kernel
theorem d_Lw_law_1147 : decode m_Lw_law.2.1 1147 = .ok (.invokevirtual 75, 3) := by decide +kernel
theorem d_Lw_law_1150 : decode m_Lw_law.2.1 1150 = .ok (.iload 5, 2) := by decide +kernel
theorem d_Lw_law_1152 : decode m_Lw_law.2.1 1152 = .ok (.if_icmp .eq 5, 3) := by decide +kernel
theorem d_Lw_law_1155 : decode m_Lw_law.2.1 1155 = .ok (.iconst 0, 1) := by decide +kernel
theorem d_Lw_law_1156 : decode m_Lw_law.2.1 1156 = .ok (.ireturn, 1) := by decide +kernel
theorem d_Lw_law_1157 : decode m_Lw_law.2.1 1157 = .ok (.iload 5, 2) := by decide +kernel
theorem d_Lw_law_1159 : decode m_Lw_law.2.1 1159 = .ok (.ifCond .ne 15, 3) := by decide +kernel
theorem d_Lw_law_1162 : decode m_Lw_law.2.1 1162 = .ok (.aload_n 3, 1) := by decide +kernel
theorem d_Lw_law_1163 : decode m_Lw_law.2.1 1163 = .ok (.iconst 0, 1) := by decide +kernel
theorem d_Lw_law_1164 : decode m_Lw_law.2.1 1164 = .ok (.laload, 1) := by decide +kernel
theorem d_Lw_law_1165 : decode m_Lw_law.2.1 1165 = .ok (.iload 6, 2) := by decide +kernel
theorem d_Lw_law_1167 : decode m_Lw_law.2.1 1167 = .ok (.i2l, 1) := by decide +kernel
theorem d_Lw_law_1168 : decode m_Lw_law.2.1 1168 = .ok (.lcmp, 1) := by decide +kernel
theorem d_Lw_law_1169 : decode m_Lw_law.2.1 1169 = .ok (.ifCond .eq 5, 3) := by decide +kernel
theorem d_Lw_law_1172 : decode m_Lw_law.2.1 1172 = .ok (.iconst 0, 1) := by decide +kernel
theorem d_Lw_law_1173 : decode m_Lw_law.2.1 1173 = .ok (.ireturn, 1) := by decide +kernel
theorem d_Lw_law_1174 : decode m_Lw_law.2.1 1174 = .ok (.goto 54, 3) := by decide +kernel
theorem d_Lw_law_1177 : decode m_Lw_law.2.1 1177 = .ok (.aload_n 1, 1) := by decide +kernel
theorem d_Lw_law_1178 : decode m_Lw_law.2.1 1178 = .ok (.aload_n 0, 1) := by decide +kernel
theorem d_Lw_law_1179 : decode m_Lw_law.2.1 1179 = .ok (.iload 4, 2) := by decide +kernel
theorem d_Lw_law_1181 : decode m_Lw_law.2.1 1181 = .ok (.iconst 1, 1) := by decide +kernel
theorem d_Lw_law_1182 : decode m_Lw_law.2.1 1182 = .ok (.iadd, 1) := by decide +kernel
theorem d_Lw_law_1183 : decode m_Lw_law.2.1 1183 = .ok (.iaload, 1) := by decide +kernel
theorem d_Lw_law_1184 : decode m_Lw_law.2.1 1184 = .ok (.invokevirtual 127, 3) := by decide +kernel
theorem d_Lw_law_1187 : decode m_Lw_law.2.1 1187 = .ok (.aload_n 2, 1) := by decide +kernel
theorem d_Lw_law_1188 : decode m_Lw_law.2.1 1188 = .ok (.aload_n 0, 1) := by decide +kernel
theorem d_Lw_law_1189 : decode m_Lw_law.2.1 1189 = .ok (.iload 4, 2) := by decide +kernel
theorem d_Lw_law_1191 : decode m_Lw_law.2.1 1191 = .ok (.iconst 1, 1) := by decide +kernel
theorem d_Lw_law_1192 : decode m_Lw_law.2.1 1192 = .ok (.iadd, 1) := by decide +kernel
theorem d_Lw_law_1193 : decode m_Lw_law.2.1 1193 = .ok (.iaload, 1) := by decide +kernel
theorem d_Lw_law_1194 : decode m_Lw_law.2.1 1194 = .ok (.invokevirtual 131, 3) := by decide +kernel
theorem d_Lw_law_1197 : decode m_Lw_law.2.1 1197 = .ok (.lcmp, 1) := by decide +kernel
theorem d_Lw_law_1198 : decode m_Lw_law.2.1 1198 = .ok (.ifCond .eq 30, 3) := by decide +kernel
theorem d_Lw_law_1201 : decode m_Lw_law.2.1 1201 = .ok (.iconst 0, 1) := by decide +kernel
theorem d_Lw_law_1202 : decode m_Lw_law.2.1 1202 = .ok (.ireturn, 1) := by decide +kernel
theorem d_Lw_law_1203 : decode m_Lw_law.2.1 1203 = .ok (.aload_n 1, 1) := by decide +kernel
theorem d_Lw_law_1204 : decode m_Lw_law.2.1 1204 = .ok (.aload_n 0, 1) := by decide +kernel
theorem d_Lw_law_1205 : decode m_Lw_law.2.1 1205 = .ok (.iload 4, 2) := by decide +kernel
theorem d_Lw_law_1207 : decode m_Lw_law.2.1 1207 = .ok (.iconst 1, 1) := by decide +kernel
theorem d_Lw_law_1208 : decode m_Lw_law.2.1 1208 = .ok (.iadd, 1) := by decide +kernel
theorem d_Lw_law_1209 : decode m_Lw_law.2.1 1209 = .ok (.iaload, 1) := by decide +kernel
theorem d_Lw_law_1210 : decode m_Lw_law.2.1 1210 = .ok (.invokevirtual 132, 3) := by decide +kernel
theorem d_Lw_law_1213 : decode m_Lw_law.2.1 1213 = .ok (.aload_n 2, 1) := by decide +kernel
theorem d_Lw_law_1214 : decode m_Lw_law.2.1 1214 = .ok (.aload_n 0, 1) := by decide +kernel
theorem d_Lw_law_1215 : decode m_Lw_law.2.1 1215 = .ok (.iload 4, 2) := by decide +kernel
theorem d_Lw_law_1217 : decode m_Lw_law.2.1 1217 = .ok (.iconst 1, 1) := by decide +kernel
theorem d_Lw_law_1218 : decode m_Lw_law.2.1 1218 = .ok (.iadd, 1) := by decide +kernel
theorem d_Lw_law_1219 : decode m_Lw_law.2.1 1219 = .ok (.iaload, 1) := by decide +kernel
theorem d_Lw_law_1220 : decode m_Lw_law.2.1 1220 = .ok (.invokevirtual 135, 3) := by decide +kernel
theorem d_Lw_law_1223 : decode m_Lw_law.2.1 1223 = .ok (.if_icmp .eq 5, 3) := by decide +kernel
theorem d_Lw_law_1226 : decode m_Lw_law.2.1 1226 = .ok (.iconst 0, 1) := by decide +kernel
theorem d_Lw_law_1227 : decode m_Lw_law.2.1 1227 = .ok (.ireturn, 1) := by decide +kernel
theorem d_Lw_law_1228 : decode m_Lw_law.2.1 1228 = .ok (.iinc 4 6, 3) := by decide +kernel
theorem d_Lw_law_1231 : decode m_Lw_law.2.1 1231 = .ok (.goto (-1208), 3) := by decide +kernel
theorem d_Lw_law_1234 : decode m_Lw_law.2.1 1234 = .ok (.iconst 1, 1) := by decide +kernel
theorem d_Lw_law_1235 : decode m_Lw_law.2.1 1235 = .ok (.ireturn, 1) := by decide +kernel
end
section
/-! the machine seen as a pure one: a heap as a function, a run as a predicate; both outcomes -/
abbrev xH : Type := Nat × Nat × (Nat → Option va_E)
abbrev xR : Type := Option Value ⊕ Addr
abbrev xM : Type := MethodName × ByteArray × Nat × Option FieldType × List (Nat × Nat × Nat × Nat)
abbrev xG : Type := Launch × va_G × List (ClassId × FieldType) × Nat × Nat × Nat × Nat × Cell
abbrev gL (G : xG) : Launch := G.1
abbrev gD (G : xG) : va_G := G.2.1
abbrev gT (G : xG) : List (ClassId × FieldType) := G.2.2.1
/-- the heap's size where the law begins: nothing below is written -/
abbrev gA (G : xG) : Nat := G.2.2.2.1
/-- the heap's size and the number of slots (since the law's begin) that are never passed -/
abbrev gC (G : xG) : Nat := G.2.2.2.2.1
abbrev gS (G : xG) : Nat := G.2.2.2.2.2.1
/-- the script: its address, its cell -/
abbrev gB (G : xG) : Nat := G.2.2.2.2.2.2.1
abbrev gX (G : xG) : Cell := G.2.2.2.2.2.2.2
def xRep (G : xG) (h : xH) (H : Heap) : Prop := H.size = h.1 ∧ h.1 ≤ gC G ∧ h.2.1 ≤ gS G ∧ gA G ≤ h.1 ∧ (gB G < gA G ∧ H[gB G]? = some (gX G)) ∧ ∀ (a : Nat) (e : va_E), h.2.2 a = some e → gA G ≤ a ∧ va_at (gD G) xcl (a, e) H
def xOut (r : xR) : Outcome := match r with
  | .inl v => .returned v
  | .inr a => .threw a
/-- the cells of statics stay -/
def xKeepS (H H' : Heap) : Prop := ∀ (a : Nat) (c : Cell), H[a]? = some c → c.vm.isStatics = true → H'[a]? = some c
def xEnd (G : xG) (s : State) (below : List Frame) (n0 : Nat) (Q : xR → xH → Prop) : State → Prop := fun t =>
  ∃ (r : xR) (h : xH) (L : List Loc), Q r h ∧ xRep G h t.heap ∧ xKeepS s.heap t.heap ∧ t.status = .running ∧ Ended t below (xOut r) ∧ s.WarmedH t.vm ∧
    s.sameButNew ({ t with vm := s.vm } : State) L (h.1 - s.heap.size) (h.2.1 - n0) ∧ (∀ q ∈ L, gA G ≤ q.base) ∧ s.heap.size ≤ h.1 ∧ n0 ≤ h.2.1
/-- the words of the tables; those that speak of cells of statics too -/
def xWd (s : State) : Prop := ∀ w ∈ xWS, w.before #[] s = true
def xSd (s : State) : Prop := ∀ w ∈ xSW, w.before #[] s = true
def xFix (G : xG) (M : xM) (d : Nat) (p : Program) (R : Room) (s : State) (m : MethodId) (meth : Method) (c : Code) (n0 : Nat) : Prop :=
  p.tables.exec = Jvm.exec ∧ c.code = M.2.1 ∧ c.maxLocals = M.2.2.1 ∧ meth.sig.returnType = M.2.2.2.1 ∧ meth.locks = false ∧
  c.exceptionTable.toList.map (fun h => (h.startPc, h.endPc, h.handlerPc, h.catchType)) = M.2.2.2.2 ∧
  s.methodNamed? M.1 = some m ∧ s.vm.method? m = some meth ∧ xWd s ∧ xSd s ∧ s.isArrayOf (gX G) .int ∧ va_K (gD G) xcl (gT G) s ∧ d + 16 ≤ R.frames ∧ 64 * d + 256 ≤ R.locals ∧
  gC G ≤ s.heap.size + R.cells ∧ gS G ≤ n0 + R.slots
def EX (G : xG) (M : xM) (d pc : Nat) (lv : List (Nat × Value)) (st : List Value) (h : xH) (Q : xR → xH → Prop) : Prop :=
  ∀ (p : Program) (e : Env) (R : Room) (s : State) (m : MethodId) (args : Array Value) (below : List Frame) (meth : Method) (c : Code) (n0 : Nat) (ls : Array Slot) (H : Heap) (locs : List Loc),
    xFix G M d p R s m meth c n0 → lv_has ls M.2.2.1 lv → xRep G h H → xKeepS s.heap H → (∀ q ∈ locs, gA G ≤ q.base) → s.heap.size ≤ h.1 → n0 ≤ h.2.1 →
    W p (gL G) e R s m args below meth c H locs (h.1 - s.heap.size) (h.2.1 - n0) (xEnd G s below n0 Q) (F0 m pc ls st)
/-! the locals: a list, in the order of their numbers -/
def lvG : List (Nat × Value) → Nat → Option Value
  | [], _ => none
  | (j, v) :: t, i => match Nat.beq j i with
    | true => some v
    | false => lvG t i
theorem lvG_mem : ∀ {lv : List (Nat × Value)} {i : Nat} {v : Value}, lvG lv i = some v → (i, v) ∈ lv
  | [], i, v, h => by cases h
  | (j, w) :: t, i, v, h => by
    unfold lvG at h
    split at h
    next hb =>
      cases h
      have e := Nat.eq_of_beq_eq_true hb
      subst e
      exact List.mem_cons_self
    next hb => exact List.mem_cons_of_mem _ (lvG_mem h)
theorem lvG_at {ls : Array Slot} {nL : Nat} {lv : List (Nat × Value)} (h : lv_has ls nL lv) {i : Nat} {v : Value} (hv : lvG lv i = some v) : ls[i]? = some (.val v) := h.2.2 (i, v) (lvG_mem hv)
def lvK1 (i : Nat) : List (Nat × Value) → List (Nat × Value)
  | [] => []
  | (j, w) :: t => match Nat.beq j i || (Nat.beq (j + 1) i && Nat.beq w.category 2) with
    | true => lvK1 i t
    | false => (j, w) :: lvK1 i t
def lvK2 (i : Nat) : List (Nat × Value) → List (Nat × Value)
  | [] => []
  | (j, w) :: t => match Nat.beq j i || (Nat.beq j (i + 1) || (Nat.beq (j + 1) i && Nat.beq w.category 2)) with
    | true => lvK2 i t
    | false => (j, w) :: lvK2 i t
def lvIns : List (Nat × Value) → Nat → Value → List (Nat × Value)
  | [], i, v => [(i, v)]
  | (j, w) :: t, i, v => match Nat.ble i j with
    | true => (i, v) :: (j, w) :: t
    | false => (j, w) :: lvIns t i v
theorem lvIns_sub : ∀ {lv : List (Nat × Value)} {i : Nat} {v : Value} {q : Nat × Value}, q ∈ lvIns lv i v → q = (i, v) ∨ q ∈ lv
  | [], i, v, q, h => by
    simp [lvIns] at h
    exact Or.inl h
  | (j, w) :: t, i, v, q, h => by
    unfold lvIns at h
    split at h
    next hb => exact List.mem_cons.mp h
    next hb =>
      rcases List.mem_cons.mp h with h | h
      · rw [h]; exact Or.inr List.mem_cons_self
      · rcases lvIns_sub h with h | h
        · exact Or.inl h
        · exact Or.inr (List.mem_cons_of_mem _ h)
theorem lvK1_sub : ∀ {lv : List (Nat × Value)} {i : Nat} {q : Nat × Value}, q ∈ lvK1 i lv → q ∈ lv.filter (fun q => !(q.1 == i) && !(q.1 + 1 == i && q.2.category == 2))
  | [], i, q, h => by cases h
  | (j, w) :: t, i, q, h => by
    unfold lvK1 at h
    split at h
    next hb =>
      have := lvK1_sub h
      rw [List.mem_filter] at this ⊢
      exact ⟨List.mem_cons_of_mem _ this.1, this.2⟩
    next hb =>
      rcases List.mem_cons.mp h with h | h
      · rw [List.mem_filter]
        subst h
        refine ⟨List.mem_cons_self, ?_⟩
        simp only [Nat.beq_eq, Bool.or_eq_false_iff, Bool.and_eq_false_iff] at hb
        simp only [Bool.and_eq_true, Bool.not_eq_true', beq_eq_false_iff_ne, Bool.and_eq_false_iff]
        obtain ⟨h1, h2⟩ := hb
        refine ⟨fun e => ?_, ?_⟩
        · rw [e] at h1; simp at h1
        · rcases h2 with h2 | h2
          · left; intro e; rw [e] at h2; simp at h2
          · right; intro e; rw [e] at h2; simp at h2
      · have := lvK1_sub h
        rw [List.mem_filter] at this ⊢
        exact ⟨List.mem_cons_of_mem _ this.1, this.2⟩
theorem lvK2_sub : ∀ {lv : List (Nat × Value)} {i : Nat} {q : Nat × Value}, q ∈ lvK2 i lv → q ∈ lv.filter (fun q => !(q.1 == i) && (!(q.1 == i + 1) && !(q.1 + 1 == i && q.2.category == 2)))
  | [], i, q, h => by cases h
  | (j, w) :: t, i, q, h => by
    unfold lvK2 at h
    split at h
    next hb =>
      have := lvK2_sub h
      rw [List.mem_filter] at this ⊢
      exact ⟨List.mem_cons_of_mem _ this.1, this.2⟩
    next hb =>
      rcases List.mem_cons.mp h with h | h
      · rw [List.mem_filter]
        subst h
        refine ⟨List.mem_cons_self, ?_⟩
        simp only [Nat.beq_eq, Bool.or_eq_false_iff, Bool.and_eq_false_iff] at hb
        simp only [Bool.and_eq_true, Bool.not_eq_true', beq_eq_false_iff_ne, Bool.and_eq_false_iff]
        obtain ⟨h1, h3, h2⟩ := hb
        refine ⟨fun e => ?_, fun e => ?_, ?_⟩
        · rw [e] at h1; simp at h1
        · rw [e] at h3; simp at h3
        · rcases h2 with h2 | h2
          · left; intro e; rw [e] at h2; simp at h2
          · right; intro e; rw [e] at h2; simp at h2
      · have := lvK2_sub h
        rw [List.mem_filter] at this ⊢
        exact ⟨List.mem_cons_of_mem _ this.1, this.2⟩
theorem lv_more {ls : Array Slot} {nL : Nat} {l l' : List (Nat × Value)} (h : lv_has ls nL l) (hs : ∀ q ∈ l', q ∈ l) : lv_has ls nL l' := ⟨h.1, h.2.1, fun q hq => h.2.2 q (hs q hq)⟩
theorem lv_has1 {ls : Array Slot} {nL i : Nat} {v : Value} {lv : List (Nat × Value)} (h : lv_has ls nL ((i, v) :: lv.filter (fun q => !(q.1 == i) && !(q.1 + 1 == i && q.2.category == 2)))) : lv_has ls nL (lvIns (lvK1 i lv) i v) :=
  lv_more h fun q hq => by
    rcases lvIns_sub hq with e | e
    · rw [e]; exact List.mem_cons_self
    · exact List.mem_cons_of_mem _ (lvK1_sub e)
theorem lv_has2 {ls : Array Slot} {nL i : Nat} {v : Value} {lv : List (Nat × Value)} (h : lv_has ls nL ((i, v) :: lv.filter (fun q => !(q.1 == i) && (!(q.1 == i + 1) && !(q.1 + 1 == i && q.2.category == 2))))) : lv_has ls nL (lvIns (lvK2 i lv) i v) :=
  lv_more h fun q hq => by
    rcases lvIns_sub hq with e | e
    · rw [e]; exact List.mem_cons_self
    · exact List.mem_cons_of_mem _ (lvK2_sub e)
/-- fewer locals -/
def lvSel (lv : List (Nat × Value)) : List Nat → List (Nat × Value)
  | [] => []
  | i :: t => match lvG lv i with
    | some v => (i, v) :: lvSel lv t
    | none => lvSel lv t
theorem lvSel_sub : ∀ {lv : List (Nat × Value)} {is : List Nat} {q : Nat × Value}, q ∈ lvSel lv is → q ∈ lv
  | lv, [], q, h => by cases h
  | lv, i :: t, q, h => by
    unfold lvSel at h
    split at h
    next v hv =>
      rcases List.mem_cons.mp h with h | h
      · rw [h]; exact lvG_mem hv
      · exact lvSel_sub h
    next => exact lvSel_sub h
end
section
section XR
variable {G : xG} {M : xM} {d pc : Nat} {lv : List (Nat × Value)} {st : List Value} {h : xH} {Q Q' : xR → xH → Prop}
theorem x_iconst {n : Int} {v : Int32} (hd : decode M.2.1 pc = .ok (.iconst n, 1)) (hv : Int32.ofInt n = v) (k : EX G M d (pc + 1) lv (.int v :: st) h Q) : EX G M d pc lv st h Q :=
  fun p e R s m args below meth c n0 ls H locs hF hl hr hz ho h1 h2 => lv_iconst hF.1 hF.2.1 hd hv (k p e R s m args below meth c n0 ls H locs hF hl hr hz ho h1 h2)
theorem x_bipush {n : Int} {v : Int32} (hd : decode M.2.1 pc = .ok (.bipush n, 2)) (hv : (Int8.ofInt n).toInt32 = v) (k : EX G M d (pc + 2) lv (.int v :: st) h Q) : EX G M d pc lv st h Q :=
  fun p e R s m args below meth c n0 ls H locs hF hl hr hz ho h1 h2 => lv_bipush hF.1 hF.2.1 hd hv (k p e R s m args below meth c n0 ls H locs hF hl hr hz ho h1 h2)
theorem x_sipush {n : Int} {v : Int32} (hd : decode M.2.1 pc = .ok (.sipush n, 3)) (hv : (Int16.ofInt n).toInt32 = v) (k : EX G M d (pc + 3) lv (.int v :: st) h Q) : EX G M d pc lv st h Q :=
  fun p e R s m args below meth c n0 ls H locs hF hl hr hz ho h1 h2 => lv_sipush hF.1 hF.2.1 hd hv (k p e R s m args below meth c n0 ls H locs hF hl hr hz ho h1 h2)
theorem x_lconst {n : Fin 2} {v : Int64} (hd : decode M.2.1 pc = .ok (.lconst n, 1)) (hv : Int64.ofNat (n : Nat) = v) (k : EX G M d (pc + 1) lv (.long v :: st) h Q) : EX G M d pc lv st h Q :=
  fun p e R s m args below meth c n0 ls H locs hF hl hr hz ho h1 h2 => lv_lconst hF.1 hF.2.1 hd hv (k p e R s m args below meth c n0 ls H locs hF hl hr hz ho h1 h2)
theorem x_null  (hd : decode M.2.1 pc = .ok (.aconst_null, 1))  (k : EX G M d (pc + 1) lv (.null :: st) h Q) : EX G M d pc lv st h Q :=
  fun p e R s m args below meth c n0 ls H locs hF hl hr hz ho h1 h2 => lv_null hF.1 hF.2.1 hd (k p e R s m args below meth c n0 ls H locs hF hl hr hz ho h1 h2)
theorem x_iload_n {k0 : Fin 4} {x : Int32} (hd : decode M.2.1 pc = .ok (.iload_n k0, 1)) (hv : lvG lv k0 = some (.int x)) (k : EX G M d (pc + 1) lv (.int x :: st) h Q) : EX G M d pc lv st h Q :=
  fun p e R s m args below meth c n0 ls H locs hF hl hr hz ho h1 h2 => lv_iload_n hF.1 hF.2.1 hd rfl (lvG_at hl hv) (k p e R s m args below meth c n0 ls H locs hF hl hr hz ho h1 h2)
theorem x_iload {i : Nat} {x : Int32} (hd : decode M.2.1 pc = .ok (.iload i, 2)) (hv : lvG lv i = some (.int x)) (k : EX G M d (pc + 2) lv (.int x :: st) h Q) : EX G M d pc lv st h Q :=
  fun p e R s m args below meth c n0 ls H locs hF hl hr hz ho h1 h2 => lv_iload hF.1 hF.2.1 hd (lvG_at hl hv) (k p e R s m args below meth c n0 ls H locs hF hl hr hz ho h1 h2)
theorem x_istore_n {k0 : Fin 4} {x : Int32} (hd : decode M.2.1 pc = .ok (.istore_n k0, 1)) (hn : (k0 : Nat) < M.2.2.1) (k : EX G M d (pc + 1) (lvIns (lvK1 k0 lv) k0 (.int x)) st h Q) : EX G M d pc lv (.int x :: st) h Q :=
  fun p e R s m args below meth c n0 ls H locs hF hl hr hz ho h1 h2 => lv_istore_n hF.1 hF.2.1 hd rfl hl hn rfl fun ls' hl' => k p e R s m args below meth c n0 ls' H locs hF (lv_has1 hl') hr hz ho h1 h2
theorem x_istore {i : Nat} {x : Int32} (hd : decode M.2.1 pc = .ok (.istore i, 2)) (hn : i < M.2.2.1) (k : EX G M d (pc + 2) (lvIns (lvK1 i lv) i (.int x)) st h Q) : EX G M d pc lv (.int x :: st) h Q :=
  fun p e R s m args below meth c n0 ls H locs hF hl hr hz ho h1 h2 => lv_istore hF.1 hF.2.1 hd hl hn rfl fun ls' hl' => k p e R s m args below meth c n0 ls' H locs hF (lv_has1 hl') hr hz ho h1 h2
theorem x_lload_n {k0 : Fin 4} {x : Int64} (hd : decode M.2.1 pc = .ok (.lload_n k0, 1)) (hv : lvG lv k0 = some (.long x)) (k : EX G M d (pc + 1) lv (.long x :: st) h Q) : EX G M d pc lv st h Q :=
  fun p e R s m args below meth c n0 ls H locs hF hl hr hz ho h1 h2 => lv_lload_n hF.1 hF.2.1 hd rfl (lvG_at hl hv) (k p e R s m args below meth c n0 ls H locs hF hl hr hz ho h1 h2)
theorem x_lload {i : Nat} {x : Int64} (hd : decode M.2.1 pc = .ok (.lload i, 2)) (hv : lvG lv i = some (.long x)) (k : EX G M d (pc + 2) lv (.long x :: st) h Q) : EX G M d pc lv st h Q :=
  fun p e R s m args below meth c n0 ls H locs hF hl hr hz ho h1 h2 => lv_lload hF.1 hF.2.1 hd (lvG_at hl hv) (k p e R s m args below meth c n0 ls H locs hF hl hr hz ho h1 h2)
theorem x_lstore_n {k0 : Fin 4} {x : Int64} (hd : decode M.2.1 pc = .ok (.lstore_n k0, 1)) (hn : (k0 : Nat) + 1 < M.2.2.1) (k : EX G M d (pc + 1) (lvIns (lvK2 k0 lv) k0 (.long x)) st h Q) : EX G M d pc lv (.long x :: st) h Q :=
  fun p e R s m args below meth c n0 ls H locs hF hl hr hz ho h1 h2 => lv_lstore_n hF.1 hF.2.1 hd rfl hl hn rfl fun ls' hl' => k p e R s m args below meth c n0 ls' H locs hF (lv_has2 hl') hr hz ho h1 h2
theorem x_lstore {i : Nat} {x : Int64} (hd : decode M.2.1 pc = .ok (.lstore i, 2)) (hn : i + 1 < M.2.2.1) (k : EX G M d (pc + 2) (lvIns (lvK2 i lv) i (.long x)) st h Q) : EX G M d pc lv (.long x :: st) h Q :=
  fun p e R s m args below meth c n0 ls H locs hF hl hr hz ho h1 h2 => lv_lstore hF.1 hF.2.1 hd hl hn rfl fun ls' hl' => k p e R s m args below meth c n0 ls' H locs hF (lv_has2 hl') hr hz ho h1 h2
theorem x_aload_n {k0 : Fin 4} {a : Nat} (hd : decode M.2.1 pc = .ok (.aload_n k0, 1)) (hv : lvG lv k0 = some (.ref a)) (k : EX G M d (pc + 1) lv (.ref a :: st) h Q) : EX G M d pc lv st h Q :=
  fun p e R s m args below meth c n0 ls H locs hF hl hr hz ho h1 h2 => lv_aload_n hF.1 hF.2.1 hd rfl (lvG_at hl hv) (k p e R s m args below meth c n0 ls H locs hF hl hr hz ho h1 h2)
theorem x_aload {i : Nat} {a : Nat} (hd : decode M.2.1 pc = .ok (.aload i, 2)) (hv : lvG lv i = some (.ref a)) (k : EX G M d (pc + 2) lv (.ref a :: st) h Q) : EX G M d pc lv st h Q :=
  fun p e R s m args below meth c n0 ls H locs hF hl hr hz ho h1 h2 => lv_aload hF.1 hF.2.1 hd (lvG_at hl hv) (k p e R s m args below meth c n0 ls H locs hF hl hr hz ho h1 h2)
theorem x_astore_n {k0 : Fin 4} {a : Nat} (hd : decode M.2.1 pc = .ok (.astore_n k0, 1)) (hn : (k0 : Nat) < M.2.2.1) (k : EX G M d (pc + 1) (lvIns (lvK1 k0 lv) k0 (.ref a)) st h Q) : EX G M d pc lv (.ref a :: st) h Q :=
  fun p e R s m args below meth c n0 ls H locs hF hl hr hz ho h1 h2 => lv_astore_n hF.1 hF.2.1 hd rfl hl hn rfl fun ls' hl' => k p e R s m args below meth c n0 ls' H locs hF (lv_has1 hl') hr hz ho h1 h2
theorem x_astore {i : Nat} {a : Nat} (hd : decode M.2.1 pc = .ok (.astore i, 2)) (hn : i < M.2.2.1) (k : EX G M d (pc + 2) (lvIns (lvK1 i lv) i (.ref a)) st h Q) : EX G M d pc lv (.ref a :: st) h Q :=
  fun p e R s m args below meth c n0 ls H locs hF hl hr hz ho h1 h2 => lv_astore hF.1 hF.2.1 hd hl hn rfl fun ls' hl' => k p e R s m args below meth c n0 ls' H locs hF (lv_has1 hl') hr hz ho h1 h2
theorem x_aload_nN {k0 : Fin 4}  (hd : decode M.2.1 pc = .ok (.aload_n k0, 1)) (hv : lvG lv k0 = some (.null)) (k : EX G M d (pc + 1) lv (.null :: st) h Q) : EX G M d pc lv st h Q :=
  fun p e R s m args below meth c n0 ls H locs hF hl hr hz ho h1 h2 => lv_aload_nN hF.1 hF.2.1 hd rfl (lvG_at hl hv) (k p e R s m args below meth c n0 ls H locs hF hl hr hz ho h1 h2)
theorem x_aloadN {i : Nat}  (hd : decode M.2.1 pc = .ok (.aload i, 2)) (hv : lvG lv i = some (.null)) (k : EX G M d (pc + 2) lv (.null :: st) h Q) : EX G M d pc lv st h Q :=
  fun p e R s m args below meth c n0 ls H locs hF hl hr hz ho h1 h2 => lv_aloadN hF.1 hF.2.1 hd (lvG_at hl hv) (k p e R s m args below meth c n0 ls H locs hF hl hr hz ho h1 h2)
theorem x_astore_nN {k0 : Fin 4}  (hd : decode M.2.1 pc = .ok (.astore_n k0, 1)) (hn : (k0 : Nat) < M.2.2.1) (k : EX G M d (pc + 1) (lvIns (lvK1 k0 lv) k0 (.null)) st h Q) : EX G M d pc lv (.null :: st) h Q :=
  fun p e R s m args below meth c n0 ls H locs hF hl hr hz ho h1 h2 => lv_astore_nN hF.1 hF.2.1 hd rfl hl hn rfl fun ls' hl' => k p e R s m args below meth c n0 ls' H locs hF (lv_has1 hl') hr hz ho h1 h2
theorem x_astoreN {i : Nat}  (hd : decode M.2.1 pc = .ok (.astore i, 2)) (hn : i < M.2.2.1) (k : EX G M d (pc + 2) (lvIns (lvK1 i lv) i (.null)) st h Q) : EX G M d pc lv (.null :: st) h Q :=
  fun p e R s m args below meth c n0 ls H locs hF hl hr hz ho h1 h2 => lv_astoreN hF.1 hF.2.1 hd hl hn rfl fun ls' hl' => k p e R s m args below meth c n0 ls' H locs hF (lv_has1 hl') hr hz ho h1 h2
theorem x_iinc {i : Nat} {n : Int} {x v : Int32} (hd : decode M.2.1 pc = .ok (.iinc i n, 3)) (hv : lvG lv i = some (.int x)) (hx : x + Int32.ofInt n = v) (hn : i < M.2.2.1) (k : EX G M d (pc + 3) (lvIns (lvK1 i lv) i (.int v)) st h Q) : EX G M d pc lv st h Q := by
  intro p e R s m args below meth c n0 ls H locs hF hl hr hz ho h1 h2
  have hg := lvG_at hl hv
  obtain ⟨ls', e', h'⟩ := lv_store1 (v := .int v) hl hn rfl
  intro T hT X
  obtain ⟨t, a, b⟩ := k p e R s m args below meth c n0 ls' H locs hF (lv_has1 h') hr hz ho h1 h2 T hT X
  refine ⟨t, ?_, b⟩
  subst hx
  jvm_step X.here [X.here.top, ↓top_set X.here.top, hF.1, hF.2.1, hd, hg, e']
  exact a
theorem x_iadd {x y : Int32} (hd : decode M.2.1 pc = .ok (.iadd, 1))  (k : EX G M d (pc + 1) lv (.int (x + y) :: st) h Q) : EX G M d pc lv (.int y :: .int x :: st) h Q :=
  fun p e R s m args below meth c n0 ls H locs hF hl hr hz ho h1 h2 => lv_iadd hF.1 hF.2.1 hd (k p e R s m args below meth c n0 ls H locs hF hl hr hz ho h1 h2)
theorem x_isub {x y : Int32} (hd : decode M.2.1 pc = .ok (.isub, 1))  (k : EX G M d (pc + 1) lv (.int (x - y) :: st) h Q) : EX G M d pc lv (.int y :: .int x :: st) h Q :=
  fun p e R s m args below meth c n0 ls H locs hF hl hr hz ho h1 h2 => lv_isub hF.1 hF.2.1 hd (k p e R s m args below meth c n0 ls H locs hF hl hr hz ho h1 h2)
theorem x_imul {x y : Int32} (hd : decode M.2.1 pc = .ok (.imul, 1))  (k : EX G M d (pc + 1) lv (.int (x * y) :: st) h Q) : EX G M d pc lv (.int y :: .int x :: st) h Q :=
  fun p e R s m args below meth c n0 ls H locs hF hl hr hz ho h1 h2 => lv_imul hF.1 hF.2.1 hd (k p e R s m args below meth c n0 ls H locs hF hl hr hz ho h1 h2)
theorem x_iand {x y : Int32} (hd : decode M.2.1 pc = .ok (.iand, 1))  (k : EX G M d (pc + 1) lv (.int (x &&& y) :: st) h Q) : EX G M d pc lv (.int y :: .int x :: st) h Q :=
  fun p e R s m args below meth c n0 ls H locs hF hl hr hz ho h1 h2 => lv_iand hF.1 hF.2.1 hd (k p e R s m args below meth c n0 ls H locs hF hl hr hz ho h1 h2)
theorem x_idiv {x y : Int32} (hd : decode M.2.1 pc = .ok (.idiv, 1)) (hne : ¬ y = 0) (k : EX G M d (pc + 1) lv (.int (x / y) :: st) h Q) : EX G M d pc lv (.int y :: .int x :: st) h Q :=
  fun p e R s m args below meth c n0 ls H locs hF hl hr hz ho h1 h2 => lv_idiv hF.1 hF.2.1 hd hne (k p e R s m args below meth c n0 ls H locs hF hl hr hz ho h1 h2)
theorem x_irem {x y : Int32} (hd : decode M.2.1 pc = .ok (.irem, 1)) (hne : ¬ y = 0) (k : EX G M d (pc + 1) lv (.int (x - (x / y) * y) :: st) h Q) : EX G M d pc lv (.int y :: .int x :: st) h Q :=
  fun p e R s m args below meth c n0 ls H locs hF hl hr hz ho h1 h2 => lv_irem hF.1 hF.2.1 hd hne (k p e R s m args below meth c n0 ls H locs hF hl hr hz ho h1 h2)
theorem x_ladd {x y : Int64} (hd : decode M.2.1 pc = .ok (.ladd, 1))  (k : EX G M d (pc + 1) lv (.long (x + y) :: st) h Q) : EX G M d pc lv (.long y :: .long x :: st) h Q :=
  fun p e R s m args below meth c n0 ls H locs hF hl hr hz ho h1 h2 => lv_ladd hF.1 hF.2.1 hd (k p e R s m args below meth c n0 ls H locs hF hl hr hz ho h1 h2)
theorem x_lsub {x y : Int64} (hd : decode M.2.1 pc = .ok (.lsub, 1))  (k : EX G M d (pc + 1) lv (.long (x - y) :: st) h Q) : EX G M d pc lv (.long y :: .long x :: st) h Q :=
  fun p e R s m args below meth c n0 ls H locs hF hl hr hz ho h1 h2 => lv_lsub hF.1 hF.2.1 hd (k p e R s m args below meth c n0 ls H locs hF hl hr hz ho h1 h2)
theorem x_lmul {x y : Int64} (hd : decode M.2.1 pc = .ok (.lmul, 1))  (k : EX G M d (pc + 1) lv (.long (x * y) :: st) h Q) : EX G M d pc lv (.long y :: .long x :: st) h Q :=
  fun p e R s m args below meth c n0 ls H locs hF hl hr hz ho h1 h2 => lv_lmul hF.1 hF.2.1 hd (k p e R s m args below meth c n0 ls H locs hF hl hr hz ho h1 h2)
theorem x_i2l {x : Int32} (hd : decode M.2.1 pc = .ok (.i2l, 1))  (k : EX G M d (pc + 1) lv (.long x.toInt64 :: st) h Q) : EX G M d pc lv (.int x :: st) h Q :=
  fun p e R s m args below meth c n0 ls H locs hF hl hr hz ho h1 h2 => lv_i2l hF.1 hF.2.1 hd rfl (k p e R s m args below meth c n0 ls H locs hF hl hr hz ho h1 h2)
theorem x_lcmp {x y : Int64} (hd : decode M.2.1 pc = .ok (.lcmp, 1))  (k : EX G M d (pc + 1) lv (.int (lg_cmp x y) :: st) h Q) : EX G M d pc lv (.long y :: .long x :: st) h Q :=
  fun p e R s m args below meth c n0 ls H locs hF hl hr hz ho h1 h2 => W.lcmp hF.1 hF.2.1 hd (k p e R s m args below meth c n0 ls H locs hF hl hr hz ho h1 h2)
theorem x_dup {a : Value} (hd : decode M.2.1 pc = .ok (.dup, 1)) (ha : a.category = 1) (k : EX G M d (pc + 1) lv (a :: a :: st) h Q) : EX G M d pc lv (a :: st) h Q :=
  fun p e R s m args below meth c n0 ls H locs hF hl hr hz ho h1 h2 => lv_dup hF.1 hF.2.1 hd ha (k p e R s m args below meth c n0 ls H locs hF hl hr hz ho h1 h2)
theorem x_pop {a : Value} (hd : decode M.2.1 pc = .ok (.pop, 1)) (ha : a.category = 1) (k : EX G M d (pc + 1) lv st h Q) : EX G M d pc lv (a :: st) h Q :=
  fun p e R s m args below meth c n0 ls H locs hF hl hr hz ho h1 h2 => lv_pop hF.1 hF.2.1 hd ha (k p e R s m args below meth c n0 ls H locs hF hl hr hz ho h1 h2)
theorem x_dup_x1 {a b : Value} (hd : decode M.2.1 pc = .ok (.dup_x1, 1)) (ha : a.category = 1) (hb : b.category = 1) (k : EX G M d (pc + 1) lv (a :: b :: a :: st) h Q) : EX G M d pc lv (a :: b :: st) h Q :=
  fun p e R s m args below meth c n0 ls H locs hF hl hr hz ho h1 h2 => lv_dup_x1 hF.1 hF.2.1 hd ha hb (k p e R s m args below meth c n0 ls H locs hF hl hr hz ho h1 h2)
theorem x_dup2 {a b : Value} (hd : decode M.2.1 pc = .ok (.dup2, 1)) (ha : a.category = 1) (hb : b.category = 1) (k : EX G M d (pc + 1) lv (a :: b :: a :: b :: st) h Q) : EX G M d pc lv (a :: b :: st) h Q :=
  fun p e R s m args below meth c n0 ls H locs hF hl hr hz ho h1 h2 => lv_dup2_11 hF.1 hF.2.1 hd ha hb (k p e R s m args below meth c n0 ls H locs hF hl hr hz ho h1 h2)
theorem x_if_eq {x : Int32} {off : Int} (tgt : Nat) (hd : decode M.2.1 pc = .ok (.ifCond .eq off, 3)) (ht : (pc : Int) + off = (tgt : Int)) (kt : x = 0 → EX G M d tgt lv st h Q) (kf : ¬ (x = 0) → EX G M d (pc + 3) lv st h Q) : EX G M d pc lv (.int x :: st) h Q :=
  fun p e R s m args below meth c n0 ls H locs hF hl hr hz ho h1 h2 => lv_if_eq hF.1 hF.2.1 hd ht (fun q => kt q p e R s m args below meth c n0 ls H locs hF hl hr hz ho h1 h2) (fun q => kf q p e R s m args below meth c n0 ls H locs hF hl hr hz ho h1 h2)
theorem x_icmp_eq {x y : Int32} {off : Int} (tgt : Nat) (hd : decode M.2.1 pc = .ok (.if_icmp .eq off, 3)) (ht : (pc : Int) + off = (tgt : Int)) (kt : x = y → EX G M d tgt lv st h Q) (kf : ¬ (x = y) → EX G M d (pc + 3) lv st h Q) : EX G M d pc lv (.int y :: .int x :: st) h Q :=
  fun p e R s m args below meth c n0 ls H locs hF hl hr hz ho h1 h2 => lv_icmp_eq hF.1 hF.2.1 hd ht (fun q => kt q p e R s m args below meth c n0 ls H locs hF hl hr hz ho h1 h2) (fun q => kf q p e R s m args below meth c n0 ls H locs hF hl hr hz ho h1 h2)
theorem x_if_ne {x : Int32} {off : Int} (tgt : Nat) (hd : decode M.2.1 pc = .ok (.ifCond .ne off, 3)) (ht : (pc : Int) + off = (tgt : Int)) (kt : ¬ x = 0 → EX G M d tgt lv st h Q) (kf : x = 0 → EX G M d (pc + 3) lv st h Q) : EX G M d pc lv (.int x :: st) h Q :=
  fun p e R s m args below meth c n0 ls H locs hF hl hr hz ho h1 h2 => lv_if_ne hF.1 hF.2.1 hd ht (fun q => kt q p e R s m args below meth c n0 ls H locs hF hl hr hz ho h1 h2) (fun q => kf q p e R s m args below meth c n0 ls H locs hF hl hr hz ho h1 h2)
theorem x_icmp_ne {x y : Int32} {off : Int} (tgt : Nat) (hd : decode M.2.1 pc = .ok (.if_icmp .ne off, 3)) (ht : (pc : Int) + off = (tgt : Int)) (kt : ¬ x = y → EX G M d tgt lv st h Q) (kf : x = y → EX G M d (pc + 3) lv st h Q) : EX G M d pc lv (.int y :: .int x :: st) h Q :=
  fun p e R s m args below meth c n0 ls H locs hF hl hr hz ho h1 h2 => lv_icmp_ne hF.1 hF.2.1 hd ht (fun q => kt q p e R s m args below meth c n0 ls H locs hF hl hr hz ho h1 h2) (fun q => kf q p e R s m args below meth c n0 ls H locs hF hl hr hz ho h1 h2)
theorem x_if_lt {x : Int32} {off : Int} (tgt : Nat) (hd : decode M.2.1 pc = .ok (.ifCond .lt off, 3)) (ht : (pc : Int) + off = (tgt : Int)) (kt : x < 0 → EX G M d tgt lv st h Q) (kf : ¬ (x < 0) → EX G M d (pc + 3) lv st h Q) : EX G M d pc lv (.int x :: st) h Q :=
  fun p e R s m args below meth c n0 ls H locs hF hl hr hz ho h1 h2 => lv_if_lt hF.1 hF.2.1 hd ht (fun q => kt q p e R s m args below meth c n0 ls H locs hF hl hr hz ho h1 h2) (fun q => kf q p e R s m args below meth c n0 ls H locs hF hl hr hz ho h1 h2)
theorem x_icmp_lt {x y : Int32} {off : Int} (tgt : Nat) (hd : decode M.2.1 pc = .ok (.if_icmp .lt off, 3)) (ht : (pc : Int) + off = (tgt : Int)) (kt : x < y → EX G M d tgt lv st h Q) (kf : ¬ (x < y) → EX G M d (pc + 3) lv st h Q) : EX G M d pc lv (.int y :: .int x :: st) h Q :=
  fun p e R s m args below meth c n0 ls H locs hF hl hr hz ho h1 h2 => lv_icmp_lt hF.1 hF.2.1 hd ht (fun q => kt q p e R s m args below meth c n0 ls H locs hF hl hr hz ho h1 h2) (fun q => kf q p e R s m args below meth c n0 ls H locs hF hl hr hz ho h1 h2)
theorem x_if_ge {x : Int32} {off : Int} (tgt : Nat) (hd : decode M.2.1 pc = .ok (.ifCond .ge off, 3)) (ht : (pc : Int) + off = (tgt : Int)) (kt : 0 ≤ x → EX G M d tgt lv st h Q) (kf : ¬ (0 ≤ x) → EX G M d (pc + 3) lv st h Q) : EX G M d pc lv (.int x :: st) h Q :=
  fun p e R s m args below meth c n0 ls H locs hF hl hr hz ho h1 h2 => lv_if_ge hF.1 hF.2.1 hd ht (fun q => kt q p e R s m args below meth c n0 ls H locs hF hl hr hz ho h1 h2) (fun q => kf q p e R s m args below meth c n0 ls H locs hF hl hr hz ho h1 h2)
theorem x_icmp_ge {x y : Int32} {off : Int} (tgt : Nat) (hd : decode M.2.1 pc = .ok (.if_icmp .ge off, 3)) (ht : (pc : Int) + off = (tgt : Int)) (kt : y ≤ x → EX G M d tgt lv st h Q) (kf : ¬ (y ≤ x) → EX G M d (pc + 3) lv st h Q) : EX G M d pc lv (.int y :: .int x :: st) h Q :=
  fun p e R s m args below meth c n0 ls H locs hF hl hr hz ho h1 h2 => lv_icmp_ge hF.1 hF.2.1 hd ht (fun q => kt q p e R s m args below meth c n0 ls H locs hF hl hr hz ho h1 h2) (fun q => kf q p e R s m args below meth c n0 ls H locs hF hl hr hz ho h1 h2)
theorem x_if_gt {x : Int32} {off : Int} (tgt : Nat) (hd : decode M.2.1 pc = .ok (.ifCond .gt off, 3)) (ht : (pc : Int) + off = (tgt : Int)) (kt : 0 < x → EX G M d tgt lv st h Q) (kf : ¬ (0 < x) → EX G M d (pc + 3) lv st h Q) : EX G M d pc lv (.int x :: st) h Q :=
  fun p e R s m args below meth c n0 ls H locs hF hl hr hz ho h1 h2 => lv_if_gt hF.1 hF.2.1 hd ht (fun q => kt q p e R s m args below meth c n0 ls H locs hF hl hr hz ho h1 h2) (fun q => kf q p e R s m args below meth c n0 ls H locs hF hl hr hz ho h1 h2)
theorem x_icmp_gt {x y : Int32} {off : Int} (tgt : Nat) (hd : decode M.2.1 pc = .ok (.if_icmp .gt off, 3)) (ht : (pc : Int) + off = (tgt : Int)) (kt : y < x → EX G M d tgt lv st h Q) (kf : ¬ (y < x) → EX G M d (pc + 3) lv st h Q) : EX G M d pc lv (.int y :: .int x :: st) h Q :=
  fun p e R s m args below meth c n0 ls H locs hF hl hr hz ho h1 h2 => lv_icmp_gt hF.1 hF.2.1 hd ht (fun q => kt q p e R s m args below meth c n0 ls H locs hF hl hr hz ho h1 h2) (fun q => kf q p e R s m args below meth c n0 ls H locs hF hl hr hz ho h1 h2)
theorem x_if_le {x : Int32} {off : Int} (tgt : Nat) (hd : decode M.2.1 pc = .ok (.ifCond .le off, 3)) (ht : (pc : Int) + off = (tgt : Int)) (kt : x ≤ 0 → EX G M d tgt lv st h Q) (kf : ¬ (x ≤ 0) → EX G M d (pc + 3) lv st h Q) : EX G M d pc lv (.int x :: st) h Q :=
  fun p e R s m args below meth c n0 ls H locs hF hl hr hz ho h1 h2 => lv_if_le hF.1 hF.2.1 hd ht (fun q => kt q p e R s m args below meth c n0 ls H locs hF hl hr hz ho h1 h2) (fun q => kf q p e R s m args below meth c n0 ls H locs hF hl hr hz ho h1 h2)
theorem x_icmp_le {x y : Int32} {off : Int} (tgt : Nat) (hd : decode M.2.1 pc = .ok (.if_icmp .le off, 3)) (ht : (pc : Int) + off = (tgt : Int)) (kt : x ≤ y → EX G M d tgt lv st h Q) (kf : ¬ (x ≤ y) → EX G M d (pc + 3) lv st h Q) : EX G M d pc lv (.int y :: .int x :: st) h Q :=
  fun p e R s m args below meth c n0 ls H locs hF hl hr hz ho h1 h2 => lv_icmp_le hF.1 hF.2.1 hd ht (fun q => kt q p e R s m args below meth c n0 ls H locs hF hl hr hz ho h1 h2) (fun q => kf q p e R s m args below meth c n0 ls H locs hF hl hr hz ho h1 h2)
theorem x_goto {off : Int} (tgt : Nat) (hd : decode M.2.1 pc = .ok (.goto off, 3)) (ht : (pc : Int) + off = (tgt : Int)) (k : EX G M d tgt lv st h Q) : EX G M d pc lv st h Q :=
  fun p e R s m args below meth c n0 ls H locs hF hl hr hz ho h1 h2 => lv_goto hF.1 hF.2.1 hd ht (k p e R s m args below meth c n0 ls H locs hF hl hr hz ho h1 h2)
theorem x_ifnonnull {a : Nat} {off : Int} (tgt : Nat) (hd : decode M.2.1 pc = .ok (.ifnonnull off, 3)) (ht : (pc : Int) + off = (tgt : Int)) (k : EX G M d tgt lv st h Q) : EX G M d pc lv (.ref a :: st) h Q :=
  fun p e R s m args below meth c n0 ls H locs hF hl hr hz ho h1 h2 => lv_ifnonnull hF.1 hF.2.1 hd ht (k p e R s m args below meth c n0 ls H locs hF hl hr hz ho h1 h2)
theorem x_ifnonnullN {off : Int} (hd : decode M.2.1 pc = .ok (.ifnonnull off, 3)) (k : EX G M d (pc + 3) lv st h Q) : EX G M d pc lv (.null :: st) h Q :=
  fun p e R s m args below meth c n0 ls H locs hF hl hr hz ho h1 h2 => lv_ifnonnullN hF.1 hF.2.1 hd (k p e R s m args below meth c n0 ls H locs hF hl hr hz ho h1 h2)
theorem x_ifnull {a : Nat} {off : Int} (hd : decode M.2.1 pc = .ok (.ifnull off, 3)) (k : EX G M d (pc + 3) lv st h Q) : EX G M d pc lv (.ref a :: st) h Q :=
  fun p e R s m args below meth c n0 ls H locs hF hl hr hz ho h1 h2 => lv_ifnull hF.1 hF.2.1 hd (k p e R s m args below meth c n0 ls H locs hF hl hr hz ho h1 h2)
theorem x_ifnullN {off : Int} (tgt : Nat) (hd : decode M.2.1 pc = .ok (.ifnull off, 3)) (ht : (pc : Int) + off = (tgt : Int)) (k : EX G M d tgt lv st h Q) : EX G M d pc lv (.null :: st) h Q :=
  fun p e R s m args below meth c n0 ls H locs hF hl hr hz ho h1 h2 => lv_ifnullN hF.1 hF.2.1 hd ht (k p e R s m args below meth c n0 ls H locs hF hl hr hz ho h1 h2)
theorem x_tableOut {dflt lo hi : Int} {offs : Array Int} {len : Nat} {x : Int32} (tgt : Nat) (hd : decode M.2.1 pc = .ok (.tableswitch dflt lo hi offs, len)) (hx : x.toInt < lo ∨ hi < x.toInt) (ht : (pc : Int) + dflt = (tgt : Int)) (k : EX G M d tgt lv st h Q) : EX G M d pc lv (.int x :: st) h Q :=
  fun p e R s m args below meth c n0 ls H locs hF hl hr hz ho h1 h2 => lv_tableOut hF.1 hF.2.1 hd hx ht (k p e R s m args below meth c n0 ls H locs hF hl hr hz ho h1 h2)
theorem x_tableIn {dflt lo hi off : Int} {offs : Array Int} {len : Nat} {x : Int32} (tgt : Nat) (hd : decode M.2.1 pc = .ok (.tableswitch dflt lo hi offs, len)) (hx1 : ¬ x.toInt < lo) (hx2 : ¬ hi < x.toInt) (hx : offs[(x.toInt - lo).toNat]? = some off) (ht : (pc : Int) + off = (tgt : Int)) (k : EX G M d tgt lv st h Q) : EX G M d pc lv (.int x :: st) h Q :=
  fun p e R s m args below meth c n0 ls H locs hF hl hr hz ho h1 h2 => lv_tableIn hF.1 hF.2.1 hd hx1 hx2 hx ht (k p e R s m args below meth c n0 ls H locs hF hl hr hz ho h1 h2)
theorem x_post (hq : ∀ r h', Q r h' → Q' r h') (k : EX G M d pc lv st h Q) : EX G M d pc lv st h Q' := by
  intro p e R s m args below meth c n0 ls H locs hF hl hr hz ho h1 h2 T hT X
  obtain ⟨t, a, r, h', L, b, b2⟩ := k p e R s m args below meth c n0 ls H locs hF hl hr hz ho h1 h2 T hT X
  exact ⟨t, a, r, h', L, hq r h' b, b2⟩
theorem x_lv (is : List Nat) {lv' : List (Nat × Value)} (he : lvSel lv is = lv') (k : EX G M d pc lv' st h Q) : EX G M d pc lv st h Q := by
  subst he
  exact fun p e R s m args below meth c n0 ls H locs hF hl hr hz ho h1 h2 => k p e R s m args below meth c n0 ls H locs hF (lv_more hl fun q hq => lvSel_sub hq) hr hz ho h1 h2
theorem x_deep {d' : Nat} (hd : d ≤ d') (k : EX G M d pc lv st h Q) : EX G M d' pc lv st h Q := by
  intro p e R s m args below meth c n0 ls H locs hF hl hr hz ho h1 h2
  obtain ⟨f1, f2, f3, f4, f5, f6, f7, f8, f9, f10, f11, f12, f13, f14, f15⟩ := hF
  exact k p e R s m args below meth c n0 ls H locs ⟨f1, f2, f3, f4, f5, f6, f7, f8, f9, f10, f11, f12, by omega, by omega, f15⟩ hl hr hz ho h1 h2
theorem x_ireturn {v : Int32} {ty : FieldType} (hd : decode M.2.1 pc = .ok (.ireturn, 1)) (hr0 : M.2.2.2.1 = some ty) (hn : narrow ty (.int v) = .int v) (hq : Q (.inl (some (.int v))) h) : EX G M d pc lv [.int v] h Q := by
  intro p e R s m args below meth c n0 ls H locs hF hl hr hz ho h1 h2 T hT X
  have hlocks : meth.locks = false := hF.2.2.2.2.1
  have hrt := hF.2.2.2.1
  obtain ⟨fs, hret, hrun, hended, hW, hframe⟩ := X.leave (v := (some (.int v))) (fun h => by rw [hrt, hr0] at h; cases h)
  have hmeth' : T.vm.method? m = some meth := X.method'
  refine ⟨T.setFrames fs, ?_, .inl (some (.int v)), h, locs, hq, by rw [show (T.setFrames fs).heap = T.heap from rfl, hT]; exact hr, by rw [show (T.setFrames fs).heap = T.heap from rfl, hT]; exact hz, hrun, hended, hW, hframe, ho, h1, h2⟩
  jvm_step X.here [X.here.top, hF.1, hF.2.1, hd, hmeth', hrt, hr0, hn]
  (try refine ⟨rfl, ?_⟩); (try refine ⟨rfl, ?_⟩)
  first | (intro acts; rw [hret _ acts rfl rfl rfl]) | rw [hret _ _ rfl rfl rfl]
  exact Steps.refl _
theorem x_lreturn {v : Int64} (hd : decode M.2.1 pc = .ok (.lreturn, 1)) (hr0 : M.2.2.2.1 = some .long) (hq : Q (.inl (some (.long v))) h) : EX G M d pc lv [.long v] h Q := by
  intro p e R s m args below meth c n0 ls H locs hF hl hr hz ho h1 h2 T hT X
  have hlocks : meth.locks = false := hF.2.2.2.2.1
  have hrt := hF.2.2.2.1
  obtain ⟨fs, hret, hrun, hended, hW, hframe⟩ := X.leave (v := (some (.long v))) (fun h => by rw [hrt, hr0] at h; cases h)
  have hmeth' : T.vm.method? m = some meth := X.method'
  refine ⟨T.setFrames fs, ?_, .inl (some (.long v)), h, locs, hq, by rw [show (T.setFrames fs).heap = T.heap from rfl, hT]; exact hr, by rw [show (T.setFrames fs).heap = T.heap from rfl, hT]; exact hz, hrun, hended, hW, hframe, ho, h1, h2⟩
  jvm_step X.here [X.here.top, hF.1, hF.2.1, hd, hmeth', hrt, hr0, narrow]
  (try refine ⟨rfl, ?_⟩); (try refine ⟨rfl, ?_⟩)
  first | (intro acts; rw [hret _ acts rfl rfl rfl]) | rw [hret _ _ rfl rfl rfl]
  exact Steps.refl _
theorem x_return  (hd : decode M.2.1 pc = .ok (.return_, 1)) (hr0 : M.2.2.2.1 = none) (hq : Q (.inl none) h) : EX G M d pc lv [] h Q := by
  intro p e R s m args below meth c n0 ls H locs hF hl hr hz ho h1 h2 T hT X
  have hlocks : meth.locks = false := hF.2.2.2.2.1
  have hrt := hF.2.2.2.1
  obtain ⟨fs, hret, hrun, hended, hW, hframe⟩ := X.leave (v := none) (fun _ => rfl)
  have hmeth' : T.vm.method? m = some meth := X.method'
  refine ⟨T.setFrames fs, ?_, .inl none, h, locs, hq, by rw [show (T.setFrames fs).heap = T.heap from rfl, hT]; exact hr, by rw [show (T.setFrames fs).heap = T.heap from rfl, hT]; exact hz, hrun, hended, hW, hframe, ho, h1, h2⟩
  jvm_step X.here [X.here.top, hF.1, hF.2.1, hd, hmeth', hrt, hr0]
  (try refine ⟨rfl, ?_⟩); (try refine ⟨rfl, ?_⟩)
  first | (intro acts; rw [hret _ acts rfl rfl rfl]) | rw [hret _ _ rfl rfl rfl]
  exact Steps.refl _
theorem x_areturn {a : Nat} {n : String} (hd : decode M.2.1 pc = .ok (.areturn, 1)) (hr0 : M.2.2.2.1 = some (.object n)) (hq : Q (.inl (some (.ref a))) h) : EX G M d pc lv [.ref a] h Q := by
  intro p e R s m args below meth c n0 ls H locs hF hl hr hz ho h1 h2 T hT X
  have hlocks : meth.locks = false := hF.2.2.2.2.1
  have hrt := hF.2.2.2.1
  obtain ⟨fs, hret, hrun, hended, hW, hframe⟩ := X.leave (v := (some (.ref a))) (fun h => by rw [hrt, hr0] at h; cases h)
  have hmeth' : T.vm.method? m = some meth := X.method'
  refine ⟨T.setFrames fs, ?_, .inl (some (.ref a)), h, locs, hq, by rw [show (T.setFrames fs).heap = T.heap from rfl, hT]; exact hr, by rw [show (T.setFrames fs).heap = T.heap from rfl, hT]; exact hz, hrun, hended, hW, hframe, ho, h1, h2⟩
  (jvm_step X.here [X.here.top, hF.1, hF.2.1, hd, hmeth', hrt, hr0]
   (try refine ⟨rfl, ?_⟩); (try refine ⟨rfl, ?_⟩)
   first | (intro acts; rw [hret _ acts rfl rfl rfl]) | rw [hret _ _ rfl rfl rfl]
   exact Steps.refl _)
theorem x_areturnN {n : String} (hd : decode M.2.1 pc = .ok (.areturn, 1)) (hr0 : M.2.2.2.1 = some (.object n)) (hq : Q (.inl (some .null)) h) : EX G M d pc lv [.null] h Q := by
  intro p e R s m args below meth c n0 ls H locs hF hl hr hz ho h1 h2 T hT X
  have hlocks : meth.locks = false := hF.2.2.2.2.1
  have hrt := hF.2.2.2.1
  obtain ⟨fs, hret, hrun, hended, hW, hframe⟩ := X.leave (v := (some .null)) (fun h => by rw [hrt, hr0] at h; cases h)
  have hmeth' : T.vm.method? m = some meth := X.method'
  refine ⟨T.setFrames fs, ?_, .inl (some .null), h, locs, hq, by rw [show (T.setFrames fs).heap = T.heap from rfl, hT]; exact hr, by rw [show (T.setFrames fs).heap = T.heap from rfl, hT]; exact hz, hrun, hended, hW, hframe, ho, h1, h2⟩
  (jvm_step X.here [X.here.top, hF.1, hF.2.1, hd, hmeth', hrt, hr0]
   (try refine ⟨rfl, ?_⟩); (try refine ⟨rfl, ?_⟩)
   first | (intro acts; rw [hret _ acts rfl rfl rfl]) | rw [hret _ _ rfl rfl rfl]
   exact Steps.refl _)
end XR
end
section
/-! calls: the callee's walk inside the caller's; both outcomes -/
section XC
theorem xWd.at {s U : State} (h : xWd s) (hW : s.WarmedH U.vm) : xWd U := fun w hw => xWS_warm w hw hW (h w hw)
theorem xWd.use {s : State} {args : Array Value} {w : Cond} (h : xWd s) (hw : w ∈ xWS) : w.before args s = true := xWS_warm w hw (State.WarmedH.refl s) (h w hw)
theorem xSd.use {s : State} {args : Array Value} {w : Cond} (h : xSd s) (hw : w ∈ xSW) : w.before args s = true := by
  have h1 := h w hw
  simp only [xSW, List.mem_cons, List.not_mem_nil, or_false] at hw
  rcases hw with rfl | rfl | rfl | rfl <;> exact h1
theorem xSd.lays {s U : State} {O n d : String} (hW : s.WarmedH U.vm) (hz : xKeepS s.heap U.heap) (h : (Cond.laysStatic O n d).before #[] s = true) : (Cond.laysStatic O n d).before #[] U = true := by
  have h1 : (Cond.laysStatic O n d).before #[] (s.setVm U.vm) = true := Cond.holds_shifted (State.Shifted.of_warmed hW) _ [] rfl h
  simp only [Cond.before, Cond.holds, Cond.value] at h1 ⊢
  rw [show (s.setVm U.vm).vm = U.vm from rfl, show (s.setVm U.vm).fieldFound? O n d = U.fieldFound? O n d from rfl, show (s.setVm U.vm).heap = s.heap from rfl] at h1
  cases hc : U.vm.findClass O with
  | none => simp [hc] at h1
  | some c =>
    cases hf : U.fieldFound? O n d with
    | none => simp [hc, hf] at h1
    | some q =>
      obtain ⟨c', k, i, f⟩ := q
      simp only [hc, hf] at h1 ⊢
      cases hst : k.statics with
      | none => simp [hst] at h1
      | some a =>
        simp only [hst, Option.bind_some] at h1 ⊢
        cases hcell : s.heap[a]? with
        | none => simp [hcell] at h1
        | some cell =>
          have hs : cell.vm.isStatics = true := by
            simp [hcell] at h1
            exact h1.1.1.1.2
          rw [hz a cell hcell hs]
          rw [hcell] at h1
          exact h1
theorem xSd.ref {s U : State} {O n d : String} (hW : s.WarmedH U.vm) (hz : xKeepS s.heap U.heap) (h : (Cond.isRef (.static O n d)).before #[] s = true) : (Cond.isRef (.static O n d)).before #[] U = true := by
  have h1 : (Cond.isRef (.static O n d)).before #[] (s.setVm U.vm) = true := Cond.holds_shifted (State.Shifted.of_warmed hW) _ [] rfl h
  simp only [Cond.before, Cond.holds, Cond.value, Term.eval] at h1 ⊢
  rw [show (s.setVm U.vm).fieldNamed? O n d true = U.fieldNamed? O n d true from rfl, show (s.setVm U.vm).heap = s.heap from rfl] at h1
  cases hf : U.fieldNamed? O n d true with
  | none => simp [hf] at h1
  | some q =>
    obtain ⟨c', k, i⟩ := q
    simp only [hf, Option.bind_eq_bind, Option.bind_some] at h1 ⊢
    cases hst : k.statics with
    | none => simp [hst] at h1
    | some a =>
      simp only [hst, Option.bind_some] at h1 ⊢
      cases hcell : s.heap[a]? with
      | none => simp [hcell] at h1
      | some cell =>
        by_cases hs : cell.vm.isStatics = true
        · rw [hz a cell hcell hs]
          rw [hcell] at h1
          exact h1
        · simp [hcell, hs] at h1
theorem xSd.at {s U : State} (h : xSd s) (hW : s.WarmedH U.vm) (hz : xKeepS s.heap U.heap) : xSd U := by
  intro w hw
  have h1 := h w hw
  simp only [xSW, List.mem_cons, List.not_mem_nil, or_false] at hw
  rcases hw with rfl | rfl | rfl | rfl
  · exact xSd.lays hW hz h1
  · exact xSd.lays hW hz h1
  · exact xSd.ref hW hz h1
  · exact xSd.ref hW hz h1
theorem xKeepS.rf {H : Heap} : xKeepS H H := fun _ _ h _ => h
theorem xKeepS.trans {H1 H2 H3 : Heap} (h : xKeepS H1 H2) (k : xKeepS H2 H3) : xKeepS H1 H3 := fun a c hc hs => k a c (h a c hc hs) hs
theorem xRep.P {G : xG} {h : xH} {H : Heap} {a : Nat} {e : va_E} (hr : xRep G h H) (he : h.2.2 a = some e) : va_P (gD G) xcl [(a, e)] H := by
  intro k q hk
  have hz : k < 1 := (List.getElem?_eq_some_iff.mp hk).1
  rw [show k = 0 by omega] at hk
  cases hk
  exact (hr.2.2.2.2.2 a e he).2
theorem xRep.lo {G : xG} {h : xH} {H : Heap} {a : Nat} {e : va_E} (hr : xRep G h H) (he : h.2.2 a = some e) : gA G ≤ a := (hr.2.2.2.2.2 a e he).1
theorem xSteps.weaken {tb : Tables} {e : Env} {mid below : List Frame} {a b : State} (h : Steps tb e (mid ++ below) a b) : Steps tb e below a b := by
  obtain ⟨n, hn, w⟩ := h
  exact ⟨n, hn, fun k hk => (w k hk).weaken⟩
set_option maxRecDepth 100000 in
theorem xAr {z d r : Nat} (h : z ≤ 64) (k : 64 * (d + 1) + 256 ≤ r) : z + (64 * d + 256) ≤ r := by omega
/-- the method's code stands in the tables -/
def xHas (M : xM) : Prop := (M.2.2.2.2 = [] ∧ .code M.1 M.2.1 M.2.2.1 M.2.2.2.1 ∈ xWS) ∨ .codeWith M.1 M.2.1 M.2.2.1 M.2.2.2.1 M.2.2.2.2 ∈ xWS
theorem xHas.spec {M : xM} {U : State} (h : xHas M) (hw : xWd U) {mk : MethodId} (hn : U.methodNamed? M.1 = some mk) : ∃ meth c, U.vm.method? mk = some meth ∧ meth.code = some c ∧ c.code = M.2.1 ∧ c.maxLocals = M.2.2.1 ∧ meth.sig.returnType = M.2.2.2.1 ∧ meth.locks = false ∧
    c.exceptionTable.toList.map (fun h => (h.startPc, h.endPc, h.handlerPc, h.catchType)) = M.2.2.2.2 ∧ parseMethodDescriptor M.1.desc = some meth.sig := by
  rcases h with ⟨h0, h⟩ | h
  · obtain ⟨meth, c, q1, q2, q3, q4, q5, q6, q7, q8⟩ := Cond.code_spec hn (hw _ h)
    refine ⟨meth, c, q1, q2, q3, q4, q5, q6, ?_, q8⟩
    rw [h0]
    have : c.exceptionTable = #[] := by simpa using q7
    rw [this]; rfl
  · obtain ⟨m', meth, c, q0, q1, q2, q3, q4, q5, q6, q7, q8⟩ := Cond.codeWith_spec (hw _ h)
    cases hn.symm.trans q0
    exact ⟨meth, c, q1, q2, q3, q4, q6, q7, q5, q8⟩
/-- where a call has come: returned, or thrown, the note over the caller's frame -/
def xCame (T : State) (g : JFrame) (len : Nat) (r : xR) : State := match r with
  | .inl v => T.setTop { g with pc := g.pc + len, stack := v.toList ++ g.stack }
  | .inr a => (T.setTop g).pushFrame (.throwing a)
variable {G : xG} {M M' : xM} {d : Nat} {p : Program} {e : Env} {R : Room} {s : State} {m : MethodId} {args : Array Value} {below : List Frame} {meth : Method} {c : Code} {n0 : Nat} {h : xH} {T : State} {locs : List Loc}
set_option maxHeartbeats 1000000 in
theorem xBody (X : Stand p (gL G) e R s m args below meth c T locs (h.1 - s.heap.size) (h.2.1 - n0)) (hF : xFix G M (d + 1) p R s m meth c n0) (hr : xRep G h T.heap) (hz : xKeepS s.heap T.heap) (ho : ∀ q ∈ locs, gA G ≤ q.base) (h1 : s.heap.size ≤ h.1) (h2 : n0 ≤ h.2.1)
    (hc : xHas M') (hpl : plainFor M'.1 = true) {mk : MethodId} (hn : T.methodNamed? M'.1 = some mk) {As : List Value} (hlen : (lg_sl As).length ≤ M'.2.2.1)
    {Qc : xR → xH → Prop} (hK : EX G M' d 0 (lv_args 0 As) [] h Qc)
    {g : JFrame} (hg : g.method = m) (hsize : g.locals.size = c.maxLocals) (hW : 2 * g.monitorRoom + (g.stack.map fun v => v.category).sum + (M'.2.2.1 + 11) ≤ 64) {ig : Instr} {len : Nat} (hdg : decode c.code g.pc = .ok (ig, len)) :
    ∃ (r : xR) (h' : xH) (T' : State) (L : List Loc), Qc r h' ∧ xRep G h' T'.heap ∧ xKeepS s.heap T'.heap ∧ s.heap.size ≤ h'.1 ∧ n0 ≤ h'.2.1 ∧ (∀ q ∈ locs ++ L, gA G ≤ q.base) ∧
      Stand p (gL G) e R s m args below meth c T' (locs ++ L) (h'.1 - s.heap.size) (h'.2.1 - n0) ∧ Steps p.tables e below (doInvoke e (T.setTop g) [] mk As.toArray).1 (xCame T' g len r) := by
  obtain ⟨f1, f2, f3, f4, f5, f6, f7, f8, f9, f10, f11, f12, f13, f14, f15, f16⟩ := hF
  have hWT : s.WarmedH T.vm := X.warmed
  have hwT : xWd T := f9.at hWT
  obtain ⟨methk, ck, q2, q3, q4, q5, q7, q8, q6, q9⟩ := hc.spec hwT hn
  have hszT : T.heap.size = h.1 := hr.1
  have hb1 := hr.2.1
  have hb2 := hr.2.2.1
  have hloc : 2 * g.monitorRoom + (g.stack.map fun v => v.category).sum + (ck.maxLocals + 11) + (64 * d + 256) ≤ R.locals := by
    rw [q5]
    exact xAr hW f14
  obtain ⟨Y, hent⟩ := X.into hg hsize hdg As.toArray (R' := { frames := d + 16, locals := 64 * d + 256, cells := gC G - h.1, slots := gS G - h.2.1 }) q2 q3 q8 (State.plainMethod.of_named (s := T) hpl hn q2)
    (by show d + 16 + 1 ≤ R.frames; omega) hloc (by show _ + (gC G - h.1) ≤ R.cells; omega) (by show _ + (gS G - h.2.1) ≤ R.slots; omega)
  obtain ⟨Tn, hTn⟩ : ∃ z, z = (T.setTop g).pushFrame (.java (entryFrame mk As.toArray ck.maxLocals)) := ⟨_, rfl⟩
  rw [← hTn] at Y
  simp only [← hTn] at hent
  have hheapN : Tn.heap = T.heap := by rw [hTn]; simp [State.pushFrame, State.setFrames, State.setTop, State.modifyTopJava]
  have hheapS : (T.calling g mk As.toArray).heap = T.heap := rfl
  have hvmS : (T.calling g mk As.toArray).vm = T.vm := rfl
  have hWS : T.WarmedH (T.calling g mk As.toArray).vm := by rw [hvmS]; exact State.WarmedH.refl T
  have hsWS : s.WarmedH (T.calling g mk As.toArray).vm := by rw [hvmS]; exact hWT
  have hFk : xFix G M' d p { frames := d + 16, locals := 64 * d + 256, cells := gC G - h.1, slots := gS G - h.2.1 } (T.calling g mk As.toArray) mk methk ck h.2.1 := by
    refine ⟨f1, q4, q5, q7, q8, q6, ?_, q2, hwT.at hWS, xSd.at f10 hsWS hz, State.isArrayOf_alike hsWS.alike f11, va_K.moved hsWS.alike f12, Nat.le_refl _, Nat.le_refl _, ?_, ?_⟩
    · show T.methodNamed? M'.1 = some mk; exact hn
    · show gC G ≤ T.heap.size + (gC G - h.1); omega
    · show gS G ≤ h.2.1 + (gS G - h.2.1); omega
  have hl0 := lv_entry As hlen
  have key := hK p e _ (T.calling g mk As.toArray) mk As.toArray (.java g :: below) methk ck h.2.1 _ T.heap [] hFk hl0 hr xKeepS.rf (fun q hq => by cases hq) (by rw [hheapS, hszT]; exact Nat.le_refl _) (Nat.le_refl _)
  have e1 : h.1 - (T.calling g mk As.toArray).heap.size = 0 := by rw [hheapS, hszT]; exact Nat.sub_self _
  have e2 : h.2.1 - h.2.1 = 0 := Nat.sub_self _
  rw [e1, e2] at key
  obtain ⟨t, st, r, h', L, hq, hr', hz', hrun, hend, hWt, hsame, hL, g1, g2⟩ := key Tn hheapN Y
  have e3 : (T.calling g mk As.toArray).heap.size = h.1 := by rw [hheapS]; exact hszT
  rw [e3] at g1 hsame
  have hst : Steps p.tables e below (doInvoke e (T.setTop g) [] mk As.toArray).1 t := by
    rw [hent [], q5, lg_entry_eq]
    exact xSteps.weaken (mid := [.java g]) st
  have hcell : h.1 - s.heap.size + (h'.1 - h.1) = h'.1 - s.heap.size := by omega
  have hslot : h.2.1 - n0 + (h'.2.1 - h.2.1) = h'.2.1 - n0 := by omega
  have hLL : ∀ q ∈ locs ++ L, gA G ≤ q.base := fun q hq' => by
    rcases List.mem_append.mp hq' with a | a
    · exact ho q a
    · exact hL q a
  have hzz : xKeepS s.heap t.heap := hz.trans hz'
  cases r with
  | inl v =>
    obtain ⟨T', X', -, -, ht⟩ := X.outOf hg hdg hend hWt hsame
    rw [hcell, hslot] at X'
    have hh : T'.heap = t.heap := by rw [ht]; simp [State.setTop, State.modifyTopJava]
    exact ⟨.inl v, h', T', L, hq, by rw [hh]; exact hr', by rw [hh]; exact hzz, by omega, by omega, hLL, X', by rw [show xCame T' g len (.inl v) = t from ht.symm]; exact hst⟩
  | inr a =>
    obtain ⟨T', X', -, -, ht⟩ := X.outOfThrown hg hend hWt hsame
    rw [hcell, hslot] at X'
    have hh : T'.heap = t.heap := by rw [ht]; simp [State.pushFrame, State.setFrames, State.setTop, State.modifyTopJava]
    exact ⟨.inr a, h', T', L, hq, by rw [hh]; exact hr', by rw [hh]; exact hzz, by omega, by omega, hLL, X', by rw [show xCame T' g len (.inr a) = t from ht.symm]; exact hst⟩
/-- what is asked of a throw at pc: it leaves the method, or goes to a row of its table -/
def xThr (G : xG) (M : xM) (d pc : Nat) (lv : List (Nat × Value)) (h : xH) (Q : xR → xH → Prop) (a : Addr) : Prop :=
  ∀ (p : Program) (e : Env) (R : Room) (s : State) (m : MethodId) (args : Array Value) (below : List Frame) (meth : Method) (c : Code) (n0 : Nat) (ls : Array Slot) (locs : List Loc) (T : State) (st : List Value),
    xFix G M d p R s m meth c n0 → lv_has ls M.2.2.1 lv → xRep G h T.heap → xKeepS s.heap T.heap → (∀ q ∈ locs, gA G ≤ q.base) → s.heap.size ≤ h.1 → n0 ≤ h.2.1 →
    Stand p (gL G) e R s m args below meth c T locs (h.1 - s.heap.size) (h.2.1 - n0) → ∃ t, Steps p.tables e below ((T.setTop (F0 m pc ls st)).pushFrame (.throwing a)) t ∧ xEnd G s below n0 Q t
/-- no row takes it -/
theorem xThr.out {G : xG} {M : xM} {d pc : Nat} {lv : List (Nat × Value)} {h : xH} {Q : xR → xH → Prop} {a : Addr} (hno : M.2.2.2.2 = []) (hq : Q (.inr a) h) : xThr G M d pc lv h Q a := by
  intro p e R s m args below meth c n0 ls locs T st hF hl hr hz ho h1 h2 X
  have hlocks : meth.locks = false := hF.2.2.2.2.1
  have hex := hF.2.2.2.2.2.1
  rw [hno] at hex
  have hex : c.exceptionTable.toList = [] := List.map_eq_nil_iff.mp hex
  obtain ⟨w, hrun, hended, hW, hframe⟩ := X.leaveThrown a (g := F0 m pc ls st) rfl rfl rfl (fun x hx => by rw [hex] at hx; cases hx)
  exact ⟨_, w, .inr a, h, locs, hq, hr, hz, hrun, hended, hW, hframe, ho, h1, h2⟩
/-- behind the invoking instruction's own linking: the call, and what comes of it -/
theorem xAfter {G : xG} {M M' : xM} {d pc : Nat} {lv : List (Nat × Value)} {st : List Value} {h : xH} {Q Qc : xR → xH → Prop} {p : Program} {e : Env} {R : Room} {s : State} {m : MethodId} {args : Array Value} {below : List Frame} {meth : Method} {c : Code} {n0 : Nat} {T : State} {locs : List Loc} {ls : Array Slot}
    (X : Stand p (gL G) e R s m args below meth c T locs (h.1 - s.heap.size) (h.2.1 - n0)) (hF : xFix G M (d + 1) p R s m meth c n0) (hl : lv_has ls M.2.2.1 lv) (hr : xRep G h T.heap) (hz : xKeepS s.heap T.heap) (ho : ∀ q ∈ locs, gA G ≤ q.base) (h1 : s.heap.size ≤ h.1) (h2 : n0 ≤ h.2.1)
    (hc : xHas M') (hpl : plainFor M'.1 = true) {mk : MethodId} (hn : T.methodNamed? M'.1 = some mk) {As : List Value} (hlen : (lg_sl As).length ≤ M'.2.2.1) (hK : EX G M' d 0 (lv_args 0 As) [] h Qc)
    (hW : (st.map fun v => v.category).sum + (M'.2.2.1 + 11) ≤ 64) {ig : Instr} (hdg : decode M.2.1 pc = .ok (ig, 3))
    (kr : ∀ v h', Qc (.inl v) h' → EX G M (d + 1) (pc + 3) lv (v.toList ++ st) h' Q) (kt : ∀ a h', Qc (.inr a) h' → xThr G M (d + 1) pc lv h' Q a) :
    ∃ t, Steps p.tables e below (doInvoke e (T.setTop (F0 m pc ls st)) [] mk As.toArray).1 t ∧ xEnd G s below n0 Q t := by
  obtain ⟨r, h', T', L, hq, hr', hz', g1, g2, hL, X', hst⟩ := xBody X hF hr hz ho h1 h2 hc hpl hn hlen hK (g := F0 m pc ls st) rfl (hl.1.trans hF.2.2.1.symm) (by simpa [JFrame.monitorRoom] using hW) (ig := ig) (len := 3) (by rw [hF.2.1]; exact hdg)
  cases r with
  | inl v =>
    obtain ⟨t, a1, b1⟩ := kr v h' hq p e R s m args below meth c n0 ls T'.heap (locs ++ L) hF hl hr' hz' hL g1 g2 T' rfl X'
    exact ⟨t, hst.trans a1, b1⟩
  | inr a =>
    obtain ⟨t, a1, b1⟩ := kt a h' hq p e R s m args below meth c n0 ls (locs ++ L) T' st hF hl hr' hz' hL g1 g2 X'
    exact ⟨t, hst.trans a1, b1⟩
/-- what a call's place in the code needs of the tables -/
def xLk (own : String) (index : Nat) (M' : xM) (n : Nat) : Prop := (.methodLink own index M'.1 ∈ xWS ∨ ∃ host, .methodLinkNest own index M'.1 host ∈ xWS) ∧ xHas M' ∧ plainFor M'.1 = true ∧
  (M'.1.cls ≠ "java/lang/invoke/MethodHandle" ∧ M'.1.cls ≠ "java/lang/invoke/VarHandle") ∧ (parseMethodDescriptor M'.1.desc).map (fun q => q.parameters.length) = some n
def xLkS (own : String) (index : Nat) (M' : xM) (n : Nat) : Prop := xLk own index M' n ∧ .static M'.1 ∈ xWS ∧ .initialized M'.1.cls ∈ xWS
def xLkV (own : String) (index : Nat) (M' : xM) (n ci : Nat) : Prop := xLk own index M' n ∧ .instanceMethod M'.1 ∈ xWS ∧ .selects M'.1.cls M'.1 M'.1 ∈ xWS ∧ ∃ T N, xcl[ci]? = some (M'.1.cls, T, N)
def xLkI (own : String) (index : Nat) (M' : xM) (n : Nat) : Prop := xLk own index M' n ∧ .instanceMethod M'.1 ∈ xWS ∧ M'.1.name = "<init>" ∧ .code M'.1 M'.2.1 M'.2.2.1 none ∈ xWS
end XC
section XC2
variable {G : xG} {M M' : xM} {d pc : Nat} {lv : List (Nat × Value)} {st : List Value} {h : xH} {Q Qc : xR → xH → Prop} {As : List Value} {index n : Nat}
theorem xLen {y : MethodName} {n : Nat} {sig : MethodDescriptor} (h : (parseMethodDescriptor y.desc).map (fun q => q.parameters.length) = some n) (hs : parseMethodDescriptor y.desc = some sig) : n = sig.parameters.length := by
  rw [hs] at h
  exact (Option.some.inj h).symm
set_option maxHeartbeats 1000000 in
theorem x_callS (hd : decode M.2.1 pc = .ok (.invokestatic index, 3)) (hk : xLkS M.1.cls index M' n) (hAs : As.length = n) (hlen : (lg_sl As).length ≤ M'.2.2.1) (hW : (st.map fun v => v.category).sum + (M'.2.2.1 + 11) ≤ 64)
    (hK : EX G M' d 0 (lv_args 0 As) [] h Qc) (kr : ∀ v h', Qc (.inl v) h' → EX G M (d + 1) (pc + 3) lv (v.toList ++ st) h' Q) (kt : ∀ a h', Qc (.inr a) h' → xThr G M (d + 1) pc lv h' Q a) : EX G M (d + 1) pc lv (As.reverse ++ st) h Q := by
  intro p e R s m args below meth c n0 ls H locs hF hl hr hz ho h1 h2 T hT X
  subst hT
  obtain ⟨⟨hlk, hc, hpl, hy, hpn⟩, hst, hin⟩ := hk
  obtain ⟨f1, f2, f3, f4, f5, f6, f7, f8, f9, -⟩ := id hF
  have hown := findClass_of_methodNamed f7
  have hnm : ∃ mk, s.methodNamed? M'.1 = some mk := by
    rcases hc with ⟨-, hc⟩ | hc
    · exact Cond.code_named (f9 _ hc)
    · obtain ⟨mk, _, _, q, -⟩ := Cond.codeWith_spec (f9 _ hc); exact ⟨mk, q⟩
  obtain ⟨mk, hnamed⟩ := hnm
  obtain ⟨methM, cM, q1, q2, -, -, -, -, -, q9⟩ := hc.spec f9 hnamed
  have hstatic : methM.isStatic = true := Cond.static_spec hnamed q1 (f9 _ hst)
  obtain ⟨kP, hkP, -⟩ := className_of_methodNamed hnamed
  have hinitP : kP.init = .initialized := Cond.initialized_spec (findClass_of_methodNamed hnamed) hkP (f9 _ hin)
  have hl2 : As.length = methM.sig.parameters.length := hAs.trans (xLen hpn q9)
  have hdc : decode c.code pc = .ok (.invokestatic index, 3) := by rw [f2]; exact hd
  have go : ∃ vm', Stand p (gL G) e R s m args below meth c (T.setVm vm') locs (h.1 - s.heap.size) (h.2.1 - n0) ∧ ∀ target, (∀ acts, Steps p.tables e below (doInvoke e ((T.setVm vm').setTop { (F0 m pc ls (As.reverse ++ st)) with stack := st }) acts mk As.toArray).1 target) → Steps p.tables e below (T.setTop (F0 m pc ls (As.reverse ++ st))) target := by
    rcases hlk with hlk | ⟨host, hlk⟩
    · exact X.invokestatic f1 hown (f9.use hlk) hnamed q1 hstatic hkP hinitP hy (g := F0 m pc ls (As.reverse ++ st)) rfl (argsL := As) (rest := st) hl2 rfl hdc
    · exact X.invokestaticNest f1 hown (f9.use hlk) hnamed q1 hstatic hkP hinitP hy (g := F0 m pc ls (As.reverse ++ st)) rfl (argsL := As) (rest := st) hl2 rfl hdc
  obtain ⟨vm', X', stp⟩ := go
  obtain ⟨t, a1, b1⟩ := xAfter X' hF hl (T := T.setVm vm') hr hz ho h1 h2 hc hpl (X'.named hnamed) hlen hK hW hd kr kt
  exact ⟨t, stp t (fun acts => by rw [doInvoke_state]; exact a1), b1⟩
set_option maxHeartbeats 1000000 in
theorem x_callV {ci b : Nat} {fs : List Value} (hd : decode M.2.1 pc = .ok (.invokevirtual index, 3)) (hk : xLkV M.1.cls index M' n ci) (hb : h.2.2 b = some (.inr (ci, fs))) (hAs : As.length = n) (hlen : (lg_sl (.ref b :: As)).length ≤ M'.2.2.1) (hW : (st.map fun v => v.category).sum + (M'.2.2.1 + 11) ≤ 64)
    (hK : EX G M' d 0 (lv_args 0 (.ref b :: As)) [] h Qc) (kr : ∀ v h', Qc (.inl v) h' → EX G M (d + 1) (pc + 3) lv (v.toList ++ st) h' Q) (kt : ∀ a h', Qc (.inr a) h' → xThr G M (d + 1) pc lv h' Q a) : EX G M (d + 1) pc lv (As.reverse ++ .ref b :: st) h Q := by
  intro p e R s m args below meth c n0 ls H locs hF hl hr hz ho h1 h2 T hT X
  subst hT
  obtain ⟨⟨hlk, hc, hpl, hy, hpn⟩, hins, hsel, TT, NN, hcl⟩ := hk
  obtain ⟨f1, f2, f3, f4, f5, f6, f7, f8, f9, f10, f11, f12, -⟩ := id hF
  have hown := findClass_of_methodNamed f7
  obtain ⟨mk, methM, hnamed, hmethM, hstM, habM⟩ := Cond.instanceMethod_spec (f9 _ hins)
  obtain ⟨methM', cM, q1, q2, -, -, -, -, -, q9⟩ := hc.spec f9 hnamed
  cases hmethM.symm.trans q1
  obtain ⟨c2, r2, m2, z1, z2, z3, z4, kP, hkP, hkPi⟩ := Cond.selects_spec (f9 _ hsel)
  obtain ⟨cellB, hcB, hoB, hclB⟩ := va_recv f12 (hr.P hb) hcl (q0 := 0) rfl
  cases hclB.symm.trans z1
  cases (State.methodFound?_of_named hnamed hy).symm.trans z2
  cases hnamed.symm.trans z3
  have hselP : selectMethod e.platform s.vm cellB.cls mk = .method mk := by rw [Launch.admits_selectMethod X.admits]; exact z4
  have hl2 : As.length = methM.sig.parameters.length := hAs.trans (xLen hpn q9)
  have hdc : decode c.code pc = .ok (.invokevirtual index, 3) := by rw [f2]; exact hd
  have go : ∃ vm', Stand p (gL G) e R s m args below meth c (T.setVm vm') locs (h.1 - s.heap.size) (h.2.1 - n0) ∧ ∀ target, (∀ acts, Steps p.tables e below (doInvoke e ((T.setVm vm').setTop { (F0 m pc ls (As.reverse ++ .ref b :: st)) with stack := st }) acts mk (Value.ref b :: As).toArray).1 target) → Steps p.tables e below (T.setTop (F0 m pc ls (As.reverse ++ .ref b :: st))) target := by
    rcases hlk with hlk | ⟨host, hlk⟩
    · exact X.invokevirtual f1 hown (f9.use hlk) hnamed hmethM hstM hkP hkPi hy (a := b) (cell := cellB) hcB (fun z hh => by rw [hh] at hoB; cases hoB) hselP hmethM habM hkP hkPi (g := F0 m pc ls (As.reverse ++ .ref b :: st)) rfl (argsL := As) (rest := st) hl2 rfl hdc
    · exact X.invokevirtualNest f1 hown (f9.use hlk) hnamed hmethM hstM hkP hkPi hy (a := b) (cell := cellB) hcB (fun z hh => by rw [hh] at hoB; cases hoB) hselP hmethM habM hkP hkPi (g := F0 m pc ls (As.reverse ++ .ref b :: st)) rfl (argsL := As) (rest := st) hl2 rfl hdc
  obtain ⟨vm', X', stp⟩ := go
  obtain ⟨t, a1, b1⟩ := xAfter X' hF hl (T := T.setVm vm') hr hz ho h1 h2 hc hpl (X'.named hnamed) hlen hK hW hd kr kt
  exact ⟨t, stp t (fun acts => by rw [doInvoke_state]; exact a1), b1⟩
set_option maxHeartbeats 1000000 in
theorem x_callI {b : Nat} (hd : decode M.2.1 pc = .ok (.invokespecial index, 3)) (hk : xLkI M.1.cls index M' n) (hAs : As.length = n) (hlen : (lg_sl (.ref b :: As)).length ≤ M'.2.2.1) (hW : (st.map fun v => v.category).sum + (M'.2.2.1 + 11) ≤ 64)
    (hK : EX G M' d 0 (lv_args 0 (.ref b :: As)) [] h Qc) (kr : ∀ v h', Qc (.inl v) h' → EX G M (d + 1) (pc + 3) lv (v.toList ++ st) h' Q) (kt : ∀ a h', Qc (.inr a) h' → xThr G M (d + 1) pc lv h' Q a) : EX G M (d + 1) pc lv (As.reverse ++ .ref b :: st) h Q := by
  intro p e R s m args below meth c n0 ls H locs hF hl hr hz ho h1 h2 T hT X
  subst hT
  obtain ⟨⟨hlk, hc, hpl, hy, hpn⟩, hins, hin, hcd⟩ := hk
  obtain ⟨f1, f2, f3, f4, f5, f6, f7, f8, f9, f10, f11, f12, -⟩ := id hF
  have hown := findClass_of_methodNamed f7
  have hpf : e.platform.magicAccessors = ({} : Platform).magicAccessors := by rw [X.admits.platform]
  have hdc : decode c.code pc = .ok (.invokespecial index, 3) := by rw [f2]; exact hd
  have hcode : (Cond.code M'.1 M'.2.1 M'.2.2.1 none).before args s = true := f9.use hcd
  have hlen2 : ∀ sig, parseMethodDescriptor M'.1.desc = some sig → As.length = sig.parameters.length := fun sig hs => hAs.trans (xLen hpn hs)
  have go : ∃ mk vm', s.methodNamed? M'.1 = some mk ∧ Stand p (gL G) e R s m args below meth c (T.setVm vm') locs (h.1 - s.heap.size) (h.2.1 - n0) ∧ ∀ target, (∀ acts, Steps p.tables e below (doInvoke e ((T.setVm vm').setTop { (F0 m pc ls (As.reverse ++ .ref b :: st)) with stack := st }) acts mk (Value.ref b :: As).toArray).1 target) → Steps p.tables e below (T.setTop (F0 m pc ls (As.reverse ++ .ref b :: st))) target := by
    rcases hlk with hlk | ⟨host, hlk⟩
    · obtain ⟨mk, _, _, _, vm₁, hnamed, -, -, -, -, -, -, -, hW₁, hstep₁⟩ := Steps.initColdArgs (e := e) X.here f1 X.warmed hpf hown hin hy (f9.use hlk) (f9.use hins) hcode (f := F0 m pc ls (As.reverse ++ .ref b :: st)) rfl hlen2 rfl hdc
      exact ⟨mk, vm₁, hnamed, X.noted hW₁, hstep₁⟩
    · obtain ⟨mk, _, _, _, vm₁, hnamed, -, -, -, -, -, -, -, hW₁, hstep₁⟩ := Steps.initColdArgsNest (e := e) X.here f1 X.warmed hpf hown hin hy (f9.use hlk) (f9.use hins) hcode (f := F0 m pc ls (As.reverse ++ .ref b :: st)) rfl hlen2 rfl hdc
      exact ⟨mk, vm₁, hnamed, X.noted hW₁, hstep₁⟩
  obtain ⟨mk, vm', hnamed, X', stp⟩ := go
  obtain ⟨t, a1, b1⟩ := xAfter X' hF hl (T := T.setVm vm') hr hz ho h1 h2 hc hpl (X'.named hnamed) hlen hK hW hd kr kt
  exact ⟨t, stp t (fun acts => by rw [doInvoke_state]; exact a1), b1⟩
end XC2
end
section
/-! the heap: fields, arrays, new cells -/
def xSet (h : xH) (a : Nat) (e : va_E) : xH := (h.1, h.2.1, va_up h.2.2 a (some e))
def xNew (h : xH) (N : Nat) (e : va_E) : xH := (h.1 + 1, h.2.1 + N, va_up h.2.2 h.1 (some e))
section XH
theorem xVm {D : va_G} {cl : List vw_C} {a : Nat} {e : va_E} {H : Heap} (h : va_at D cl (a, e) H) : ∃ cell : Cell, H[a]? = some cell ∧ cell.vm = .none := by
  cases e with
  | inl x =>
    obtain ⟨cA, n, f | f | f | f | f⟩ := x
    all_goals exact ⟨_, h, rfl⟩
  | inr o =>
    obtain ⟨r, -, cell, h2, -, h3, -⟩ := h
    exact ⟨cell, h2, h3⟩
theorem xKeepS.set {D : va_G} {cl : List vw_C} {a : Nat} {e : va_E} {H H' : Heap} (h : va_at D cl (a, e) H) (ho : ∀ q : Nat, q ≠ a → H'[q]? = H[q]?) : xKeepS H H' := by
  intro q c hc hs
  by_cases hq : q = a
  · subst hq
    obtain ⟨cell, h1, h2⟩ := xVm h
    cases h1.symm.trans hc
    rw [h2] at hs
    cases hs
  · rw [ho q hq]; exact hc
theorem xKeepS.push {H H' : Heap} (ho : ∀ q : Nat, q < H.size → H'[q]? = H[q]?) : xKeepS H H' := by
  intro q c hc hs
  rw [ho q (Array.getElem?_eq_some_iff.mp hc).1]; exact hc
theorem xRep.set {G : xG} {h : xH} {H H' : Heap} {a : Nat} {e0 e : va_E} (hr : xRep G h H) (h0 : h.2.2 a = some e0) (hsz : H'.size = H.size) (ho : ∀ q : Nat, q ≠ a → H'[q]? = H[q]?) (he : va_at (gD G) xcl (a, e) H') : xRep G (xSet h a e) H' := by
  obtain ⟨r1, r2, r3, r4, ⟨r5, r6⟩, r7⟩ := hr
  have hlo := (r7 a e0 h0).1
  refine ⟨hsz.trans r1, r2, r3, r4, ⟨r5, by rw [ho _ (by omega)]; exact r6⟩, fun b e' hb => ?_⟩
  by_cases hba : b = a
  · subst hba
    rw [show (xSet h b e).2.2 b = some e from va_up_self _ _ _] at hb
    cases hb
    exact ⟨hlo, he⟩
  · rw [show (xSet h a e).2.2 b = h.2.2 b from va_up_ne _ _ hba] at hb
    exact ⟨(r7 b e' hb).1, (r7 b e' hb).2.kept (ho b hba)⟩
theorem xRep.push {G : xG} {h : xH} {H H' : Heap} {N : Nat} {e : va_E} (hr : xRep G h H) (hsz : H'.size = h.1 + 1) (ho : ∀ q : Nat, q < h.1 → H'[q]? = H[q]?) (he : va_at (gD G) xcl (h.1, e) H') (hc : h.1 + 1 ≤ gC G) (hs : h.2.1 + N ≤ gS G) : xRep G (xNew h N e) H' := by
  obtain ⟨r1, r2, r3, r4, ⟨r5, r6⟩, r7⟩ := hr
  refine ⟨hsz, hc, hs, by show gA G ≤ h.1 + 1; omega, ⟨r5, by rw [ho _ (by omega)]; exact r6⟩, fun b e' hb => ?_⟩
  by_cases hba : b = h.1
  · subst hba
    rw [show (xNew h N e).2.2 h.1 = some e from va_up_self _ _ _] at hb
    cases hb
    exact ⟨r4, he⟩
  · rw [show (xNew h N e).2.2 b = h.2.2 b from va_up_ne _ _ hba] at hb
    have h2 := (r7 b e' hb).2
    exact ⟨(r7 b e' hb).1, h2.kept (ho b (by have := h2.lt; rw [r1] at this; exact this))⟩
/-- a class of the list: its layout's words stand in the tables -/
def xCl (ci : Nat) (C : String) (T : u_T) (N : Nat) : Prop := xcl[ci]? = some (C, T, N) ∧ (∀ w ∈ u_ws C T N, w ∈ xWS) ∧ (∃ ty0 : Nat → FieldType, ∀ k, k < N → parseFieldDescriptor (T k).2.2.1 = some (ty0 k)) ∧ ∀ a, a < N → ∀ b, b < N → a ≠ b → (T a).2.1 ≠ (T b).2.1
def xFd (own : String) (index ci k : Nat) : Prop := ∃ C T N, xCl ci C T N ∧ k < N ∧ (T k).1 = C ∧ (.fieldLink own index C (T k).2.1 (T k).2.2.1 ∈ xWS ∨ ∃ host, .fieldLinkNest own index C (T k).2.1 (T k).2.2.1 host ∈ xWS)
def xPd (own : String) (index ci k : Nat) (ty : FieldType) : Prop := ∃ C T N, xCl ci C T N ∧ k < N ∧ (T k).1 = C ∧ (T k).2.2.2 = false ∧ parseFieldDescriptor (T k).2.2.1 = some ty ∧ (.fieldLink own index C (T k).2.1 (T k).2.2.1 ∈ xWS ∨ ∃ host, .fieldLinkNest own index C (T k).2.1 (T k).2.2.1 host ∈ xWS)
def xPf (own : String) (index ci k : Nat) (ty : FieldType) : Prop := ∃ T N, xCl ci own T N ∧ k < N ∧ (T k).1 = own ∧ (T k).2.2.2 = true ∧ parseFieldDescriptor (T k).2.2.1 = some ty ∧ .fieldLink own index own (T k).2.1 (T k).2.2.1 ∈ xWS
variable {G : xG} {M : xM} {d pc : Nat} {lv : List (Nat × Value)} {st : List Value} {h : xH} {Q : xR → xH → Prop} {index ci k a : Nat} {fs : List Value} {v : Value}
theorem x_getf (hd : decode M.2.1 pc = .ok (.getfield index, 3)) (hk : xFd M.1.cls index ci k) (ha : h.2.2 a = some (.inr (ci, fs))) (hv : fs[k]? = some v) (kk : EX G M d (pc + 3) lv (v :: st) h Q) : EX G M d pc lv (.ref a :: st) h Q := by
  intro p e R s m args below meth c n0 ls H locs hF hl hr hz ho h1 h2
  obtain ⟨C, T, N, ⟨hc, hin, -, -⟩, hkN, hC, hlk⟩ := hk
  obtain ⟨f1, f2, f3, f4, f5, f6, f7, f8, f9, f10, f11, f12, -⟩ := id hF
  have hown := findClass_of_methodNamed f7
  have K := kk p e R s m args below meth c n0 ls H locs hF hl hr hz ho h1 h2
  rcases hlk with hlk | ⟨host, hlk⟩
  · exact va_get f1 f2 (fun w hw => f9.use hw) hin hown f12 (hr.P ha) 0 rfl hc k hkN (f9.use hlk) (fun x hx => by rw [← hC]; exact hx) hv hd K
  · exact va_getN f1 f2 (fun w hw => f9.use hw) hin hown f12 (hr.P ha) 0 rfl hc k hkN (f9.use hlk) (fun x hx => by rw [← hC]; exact hx) hv hd K
theorem xLocs {G : xG} {locs : List Loc} {a i : Nat} (ho : ∀ q ∈ locs, gA G ≤ q.base) (ha : gA G ≤ a) : ∀ q ∈ locs ++ [(⟨a, i⟩ : Loc)], gA G ≤ q.base := by
  intro q hq
  rcases List.mem_append.mp hq with x | x
  · exact ho q x
  · rw [List.mem_singleton] at x
    rw [x]; exact ha
set_option maxHeartbeats 1000000 in
theorem x_putf {ty : FieldType} (hd : decode M.2.1 pc = .ok (.putfield index, 3)) (hk : xPd M.1.cls index ci k ty) (ha : h.2.2 a = some (.inr (ci, fs))) (hl0 : k < fs.length) (hn : narrow ty v = v) (hfit : fits ty v = true)
    (kk : EX G M d (pc + 3) lv st (xSet h a (.inr (ci, fs.set k v))) Q) : EX G M d pc lv (v :: .ref a :: st) h Q := by
  intro p e R s m args below meth c n0 ls H locs hF hl hr hz ho h1 h2
  obtain ⟨C, T, N, ⟨hc, hin, ⟨ty0, hty⟩, hnm⟩, hkN, hC, hfin, hdsc, hlk⟩ := hk
  obtain ⟨f1, f2, f3, f4, f5, f6, f7, f8, f9, f10, f11, f12, -⟩ := id hF
  have hown := findClass_of_methodNamed f7
  have hts : ∀ w ∈ xWS, w.before args s = true := fun w hw => f9.use hw
  have hap := va_apart (own := M.1.cls) hts hin ty0 hty hnm f12 hc
  have hat := (hr.2.2.2.2.2 a _ ha).2
  obtain ⟨r, r1, cell, q1, q2, q3, q4⟩ := id hat
  have hrr : r = (C, T, N) := Option.some.inj (r1.symm.trans hc)
  subst hrr
  obtain ⟨hS, hfc, kC, hkC, hkind⟩ := f12.1 ci _ hc
  obtain ⟨cf, kf, fi, f, hi, hsl⟩ := hS k hkN
  have hlay := hts _ (hin _ (u_in_lay hkN))
  unfold u_lay at hlay
  rw [if_neg (by rw [hfin]; decide)] at hlay
  have hst := (u_facts hfc hkC (u_lays hts hin hkN) hi).1
  have h6 := u_store hfc hkC hkind hlay hi hdsc hn hfit
  have hi2 : s.fieldFound? C (T k).2.1 (T k).2.2.1 = some (cf, kf, fi, f) := by rw [← hi]; rw [hC]
  have fin : ∀ H' : Heap, H'[a]? = some (cell.setSlot f.slot v) → H'.size = H.size → (∀ q, q ≠ a → H'[q]? = H[q]?) → W p (gL G) e R s m args below meth c H' (locs ++ [⟨a, f.slot⟩]) (h.1 - s.heap.size) (h.2.1 - n0) (xEnd G s below n0 Q) (F0 m (pc + 3) ls st) := by
    intro H' e1 e2 e3
    rw [hsl] at e1
    have hat2 : va_at (gD G) xcl (a, .inr (ci, fs.set k v)) H' := ⟨_, hc, t_OB.to (V := updV (vp_V fs) k v) ⟨_, e1, q2, q3, t_set q4 hap hkN v⟩ (fun j _ => vp_updV_set hl0 v j)⟩
    exact kk p e R s m args below meth c n0 ls H' _ hF hl (hr.set ha e2 e3 hat2) (hz.trans (xKeepS.set hat e3)) (xLocs ho (hr.lo ha)) h1 h2
  rcases hlk with hlk | ⟨host, hlk⟩
  · exact W.putK f1 f2 (f := f) ⟨hown, f9.use hlk, ⟨_, _, _, hi2⟩, hst⟩ (by rw [q2]; exact h6) q1 q3 (by rw [hsl]; exact k2_hasslot (q4 k hkN)) rfl rfl hd fin
  · exact va_WputK f1 f2 (f := f) hown (f9.use hlk) hi2 hst (by rw [q2]; exact h6) q1 q3 (by rw [hsl]; exact k2_hasslot (q4 k hkN)) rfl rfl hd fin
set_option maxHeartbeats 1000000 in
theorem x_putF {ty : FieldType} (hd : decode M.2.1 pc = .ok (.putfield index, 3)) (hM : M.1.name = "<init>") (hk : xPf M.1.cls index ci k ty) (ha : h.2.2 a = some (.inr (ci, fs))) (hl0 : k < fs.length) (hn : narrow ty v = v) (hfit : fits ty v = true)
    (kk : EX G M d (pc + 3) lv st (xSet h a (.inr (ci, fs.set k v))) Q) : EX G M d pc lv (v :: .ref a :: st) h Q := by
  intro p e R s m args below meth c n0 ls H locs hF hl hr hz ho h1 h2
  obtain ⟨T, N, ⟨hc, hin, ⟨ty0, hty⟩, hnm⟩, hkN, hC, hfin, hdsc, hlk⟩ := hk
  obtain ⟨f1, f2, f3, f4, f5, f6, f7, f8, f9, f10, f11, f12, -⟩ := id hF
  have hown := findClass_of_methodNamed f7
  have hin2 : meth.name = "<init>" := (name_of_methodNamed f7 f8).1.trans hM
  have hts : ∀ w ∈ xWS, w.before args s = true := fun w hw => f9.use hw
  have hap := va_apart (own := M.1.cls) hts hin ty0 hty hnm f12 hc
  have hat := (hr.2.2.2.2.2 a _ ha).2
  obtain ⟨r, r1, cell, q1, q2, q3, q4⟩ := id hat
  have hrr : r = (M.1.cls, T, N) := Option.some.inj (r1.symm.trans hc)
  subst hrr
  obtain ⟨hS, hfc, kC, hkC, hkind⟩ := f12.1 ci _ hc
  obtain ⟨cf, kf, fi, f, hi, hsl⟩ := hS k hkN
  have hlay := hts _ (hin _ (u_in_lay hkN))
  unfold u_lay at hlay
  rw [if_pos hfin] at hlay
  have hst := (u_facts hfc hkC (u_lays hts hin hkN) hi).1
  have hcf : m.cls = cf := by
    obtain ⟨_, _, c', _, _, _, -, -, hf', -, -, -, hown2, -⟩ := Cond.laysFinal_spec hlay
    have e1 : c' = cf := by have := hi.symm.trans hf'; simp at this; exact this.1.symm
    rw [hC] at hown2
    rw [← e1]; exact Option.some.inj (hown.symm.trans hown2)
  have h6 := u_fits hfc hkC hkind (Or.inr hlay) hi hdsc hn hfit
  have hi2 : s.fieldFound? M.1.cls (T k).2.1 (T k).2.2.1 = some (cf, kf, fi, f) := by rw [← hi]; rw [hC]
  refine W.putFinK f1 f2 hown (f9.use hlk) hi2 hst hcf hin2 (by rw [q2]; exact h6) q1 q3 (by rw [hsl]; exact k2_hasslot (q4 k hkN)) rfl rfl hd fun H' e1 e2 e3 => ?_
  rw [hsl] at e1
  have hat2 : va_at (gD G) xcl (a, .inr (ci, fs.set k v)) H' := ⟨_, hc, t_OB.to (V := updV (vp_V fs) k v) ⟨_, e1, q2, q3, t_set q4 hap hkN v⟩ (fun j _ => vp_updV_set hl0 v j)⟩
  exact kk p e R s m args below meth c n0 ls H' _ hF hl (hr.set ha e2 e3 hat2) (hz.trans (xKeepS.set hat e3)) (xLocs ho (hr.lo ha)) h1 h2
/-! arrays -/
variable {t0 n j : Nat} {cA : ClassId} {i : Int32}
theorem x_iald {f : Nat → Int32} (hd : decode M.2.1 pc = .ok (.iaload, 1)) (ht : (gT G)[t0]? = some (cA, .int)) (ha : h.2.2 a = some (.inl (cA, n, .inl f))) (hi : i = nI j) (hj : j < n) (hn : n < 2 ^ 31)
    (kk : EX G M d (pc + 1) lv (.int (f j) :: st) h Q) : EX G M d pc lv (.int i :: .ref a :: st) h Q := by
  subst hi
  intro p e R s m args below meth c n0 ls H locs hF hl hr hz ho h1 h2
  have K := kk p e R s m args below meth c n0 ls H locs hF hl hr hz ho h1 h2
  rw [← nI_clamp (n := j) (by omega)] at K
  exact va_iald hF.1 hF.2.1 hF.2.2.2.2.2.2.2.2.2.2.2.1 (hr.P ha) 0 t0 rfl ht (vp_in_nI hj hn) hd K
theorem x_zald {f : Nat → Int32} (hd : decode M.2.1 pc = .ok (.baload, 1)) (ht : (gT G)[t0]? = some (cA, .boolean)) (ha : h.2.2 a = some (.inl (cA, n, .inl f))) (hi : i = nI j) (hj : j < n) (hn : n < 2 ^ 31)
    (kk : EX G M d (pc + 1) lv (.int (f j) :: st) h Q) : EX G M d pc lv (.int i :: .ref a :: st) h Q := by
  subst hi
  intro p e R s m args below meth c n0 ls H locs hF hl hr hz ho h1 h2
  have K := kk p e R s m args below meth c n0 ls H locs hF hl hr hz ho h1 h2
  rw [← nI_clamp (n := j) (by omega)] at K
  exact va_zald hF.1 hF.2.1 hF.2.2.2.2.2.2.2.2.2.2.2.1 (hr.P ha) 0 t0 rfl ht (vp_in_nI hj hn) hd K
theorem x_lald {f : Nat → Int64} (hd : decode M.2.1 pc = .ok (.laload, 1)) (ht : (gT G)[t0]? = some (cA, .long)) (ha : h.2.2 a = some (.inl (cA, n, .inr (.inl f)))) (hi : i = nI j) (hj : j < n) (hn : n < 2 ^ 31)
    (kk : EX G M d (pc + 1) lv (.long (f j) :: st) h Q) : EX G M d pc lv (.int i :: .ref a :: st) h Q := by
  subst hi
  intro p e R s m args below meth c n0 ls H locs hF hl hr hz ho h1 h2
  have K := kk p e R s m args below meth c n0 ls H locs hF hl hr hz ho h1 h2
  rw [← nI_clamp (n := j) (by omega)] at K
  exact va_lald hF.1 hF.2.1 hF.2.2.2.2.2.2.2.2.2.2.2.1 (hr.P ha) 0 t0 rfl ht (vp_in_nI hj hn) hd K
theorem x_aald {C : String} {f : Nat → Option Nat} (hd : decode M.2.1 pc = .ok (.aaload, 1)) (ht : (gT G)[t0]? = some (cA, .object C)) (ha : h.2.2 a = some (.inl (cA, n, .inr (.inr (.inr (.inr f)))))) (hi : i = nI j) (hj : j < n) (hn : n < 2 ^ 31)
    (kk : EX G M d (pc + 1) lv (va_rf (f j) :: st) h Q) : EX G M d pc lv (.int i :: .ref a :: st) h Q := by
  subst hi
  intro p e R s m args below meth c n0 ls H locs hF hl hr hz ho h1 h2
  have K := kk p e R s m args below meth c n0 ls H locs hF hl hr hz ho h1 h2
  rw [← nI_clamp (n := j) (by omega)] at K
  exact va_aldq hF.1 hF.2.1 hF.2.2.2.2.2.2.2.2.2.2.2.1 (hr.P ha) 0 t0 rfl ht (vp_in_nI hj hn) hd K
theorem x_alen {x : vp_A} {ty : FieldType} (hd : decode M.2.1 pc = .ok (.arraylength, 1)) (ht : (gT G)[t0]? = some (cA, ty)) (ha : h.2.2 a = some (.inl (cA, x))) (kk : EX G M d (pc + 1) lv (.int (nI x.1) :: st) h Q) : EX G M d pc lv (.ref a :: st) h Q := by
  intro p e R s m args below meth c n0 ls H locs hF hl hr hz ho h1 h2
  exact va_alen hF.1 hF.2.1 hF.2.2.2.2.2.2.2.2.2.2.2.1 (hr.P ha) 0 t0 rfl ht rfl hd (kk p e R s m args below meth c n0 ls H locs hF hl hr hz ho h1 h2)
theorem x_iast {f : Nat → Int32} {x : Int32} (hd : decode M.2.1 pc = .ok (.iastore, 1)) (ht : (gT G)[t0]? = some (cA, .int)) (ha : h.2.2 a = some (.inl (cA, n, .inl f))) (hi : i = nI j) (hj : j < n) (hn : n < 2 ^ 31)
    (kk : EX G M d (pc + 1) lv st (xSet h a (.inl (cA, n, .inl (va_up f j x)))) Q) : EX G M d pc lv (.int x :: .int i :: .ref a :: st) h Q := by
  subst hi
  intro p e R s m args below meth c n0 ls H locs hF hl hr hz ho h1 h2
  have hin := vp_in_nI hj hn
  have hat := (hr.2.2.2.2.2 a _ ha).2
  have hcl := nI_clamp (n := j) (by omega)
  refine W.iast hF.1 hF.2.1 hat ((hF.2.2.2.2.2.2.2.2.2.2.2.1.2 t0 _ ht).1 n (fun j => .int (f j))) (fun q => by cases q) (by show ¬ (_ ∨ (arrV _ _ _).slots.size ≤ _); rw [arrV_size]; exact hin) rfl rfl hd fun H1 e z oq => ?_
  have hat2 : va_at (gD G) xcl (a, .inl (cA, n, .inl (va_up f j x))) H1 := by
    show H1[a]? = some (vp_cell _ _)
    rw [e, vp_cell_i, vp_cell_i, arrV_store, hcl]
    congr 2
    funext q
    by_cases hq : q = j
    · subst hq; simp [updV, va_up]
    · simp [updV, va_up, hq]
  exact kk p _ R s m args below meth c n0 ls H1 _ hF hl (hr.set ha z oq hat2) (hz.trans (xKeepS.set hat oq)) (xLocs ho (hr.lo ha)) h1 h2
theorem x_zast {f : Nat → Int32} {x : Int32} (hd : decode M.2.1 pc = .ok (.bastore, 1)) (ht : (gT G)[t0]? = some (cA, .boolean)) (ha : h.2.2 a = some (.inl (cA, n, .inl f))) (hi : i = nI j) (hj : j < n) (hn : n < 2 ^ 31) (hx : narrow .boolean (.int x) = .int x)
    (kk : EX G M d (pc + 1) lv st (xSet h a (.inl (cA, n, .inl (va_up f j x)))) Q) : EX G M d pc lv (.int x :: .int i :: .ref a :: st) h Q := by
  subst hi
  intro p e R s m args below meth c n0 ls H locs hF hl hr hz ho h1 h2
  have hin := vp_in_nI hj hn
  have hat := (hr.2.2.2.2.2 a _ ha).2
  have hcl := nI_clamp (n := j) (by omega)
  refine W.zast hF.1 hF.2.1 hat ((hF.2.2.2.2.2.2.2.2.2.2.2.1.2 t0 _ ht).1 n (fun j => .int (f j))) (fun q => by cases q) (by show ¬ (_ ∨ (arrV _ _ _).slots.size ≤ _); rw [arrV_size]; exact hin) rfl rfl hd fun H1 e z oq => ?_
  have hat2 : va_at (gD G) xcl (a, .inl (cA, n, .inl (va_up f j x))) H1 := by
    show H1[a]? = some (vp_cell _ _)
    rw [e, hx, vp_cell_i, vp_cell_i, arrV_store, hcl]
    congr 2
    funext q
    by_cases hq : q = j
    · subst hq; simp [updV, va_up]
    · simp [updV, va_up, hq]
  exact kk p _ R s m args below meth c n0 ls H1 _ hF hl (hr.set ha z oq hat2) (hz.trans (xKeepS.set hat oq)) (xLocs ho (hr.lo ha)) h1 h2
theorem x_last {f : Nat → Int64} {x : Int64} (hd : decode M.2.1 pc = .ok (.lastore, 1)) (ht : (gT G)[t0]? = some (cA, .long)) (ha : h.2.2 a = some (.inl (cA, n, .inr (.inl f)))) (hi : i = nI j) (hj : j < n) (hn : n < 2 ^ 31)
    (kk : EX G M d (pc + 1) lv st (xSet h a (.inl (cA, n, .inr (.inl (va_up f j x))))) Q) : EX G M d pc lv (.long x :: .int i :: .ref a :: st) h Q := by
  subst hi
  intro p e R s m args below meth c n0 ls H locs hF hl hr hz ho h1 h2
  have hin := vp_in_nI hj hn
  have hat := (hr.2.2.2.2.2 a _ ha).2
  have hcl := nI_clamp (n := j) (by omega)
  refine W.last hF.1 hF.2.1 hat ((hF.2.2.2.2.2.2.2.2.2.2.2.1.2 t0 _ ht).1 n (fun j => .long (f j))) (fun q => by cases q) (by show ¬ (_ ∨ (arrV _ _ _).slots.size ≤ _); rw [arrV_size]; exact hin) rfl rfl hd fun H1 e z oq => ?_
  have hat2 : va_at (gD G) xcl (a, .inl (cA, n, .inr (.inl (va_up f j x)))) H1 := by
    show H1[a]? = some (vp_cell _ _)
    rw [e, vp_cell_l, vp_cell_l, arrV_store, hcl]
    congr 2
    funext q
    by_cases hq : q = j
    · subst hq; simp [updV, va_up]
    · simp [updV, va_up, hq]
  exact kk p _ R s m args below meth c n0 ls H1 _ hF hl (hr.set ha z oq hat2) (hz.trans (xKeepS.set hat oq)) (xLocs ho (hr.lo ha)) h1 h2
theorem x_aast {r : vw_C} {vs : List Value} {w : Nat} {f : Nat → Option Nat} (hd : decode M.2.1 pc = .ok (.aastore, 1)) (ht : (gT G)[t0]? = some (cA, .object r.1)) (ha : h.2.2 a = some (.inl (cA, n, .inr (.inr (.inr (.inr f)))))) (hw : h.2.2 w = some (.inr (ci, vs))) (hc : xcl[ci]? = some r) (hi : i = nI j) (hj : j < n) (hn : n < 2 ^ 31)
    (kk : EX G M d (pc + 1) lv st (xSet h a (.inl (cA, n, .inr (.inr (.inr (.inr (va_up f j (some w)))))))) Q) : EX G M d pc lv (.ref w :: .int i :: .ref a :: st) h Q := by
  subst hi
  intro p e R s m args below meth c n0 ls H locs hF hl hr hz ho h1 h2
  have hin := vp_in_nI hj hn
  have hK := hF.2.2.2.2.2.2.2.2.2.2.2.1
  have hat := (hr.2.2.2.2.2 a _ ha).2
  have hcl := nI_clamp (n := j) (by omega)
  obtain ⟨r', hr', cellV, g1, g2, g3, -⟩ := (hr.2.2.2.2.2 w _ hw).2
  have hcls := (hK.1 ci r hc).2
  obtain ⟨kA, comp, k1, k2, k3, -⟩ := (hK.2 t0 _ ht).2
  have hcomp : comp = (gD G).1 ci := Option.some.inj (k3.symm.trans hcls.1)
  subst hcomp
  obtain ⟨kC, hkC, -⟩ := hcls.2
  have hlt : (nI j).toNatClampNeg < n := Nat.not_le.mp fun q => hin (Or.inr q)
  refine W.aast hF.1 hF.2.1 hat (fun q h => by cases h) (fun h => by cases h) k1 k2 rfl hkC ⟨fun q => hin (Or.inl q), by show _ < (arrV _ _ _).slots.size; rw [arrV_size]; exact hlt⟩ g1 (fun q h => by rw [g3] at h; cases h) (by rw [g2]; exact hkC) (by rw [g2]; exact va_assign hcls) rfl rfl hd fun H1 e z oq => ?_
  have hat2 : va_at (gD G) xcl (a, .inl (cA, n, .inr (.inr (.inr (.inr (va_up f j (some w))))))) H1 := by
    show H1[a]? = some (vp_cell _ _)
    rw [e, vp_cell_q, vp_cell_q, arrV_store, hcl]
    congr 2
    funext q
    by_cases hq : q = j
    · subst hq; simp [updV, va_up, va_rf]
    · simp [updV, va_up, hq]
  exact kk p _ R s m args below meth c n0 ls H1 _ hF hl (hr.set ha z oq hat2) (hz.trans (xKeepS.set hat oq)) (xLocs ho (hr.lo ha)) h1 h2
/-! new cells -/
theorem xCs {h1 s1 N : Nat} (h : s1 ≤ h1) : h1 - s1 + N = h1 + N - s1 := by omega
theorem x_new {C : String} {T : u_T} {N : Nat} {ty : Nat → FieldType} (hd : decode M.2.1 pc = .ok (.new index, 3)) (hk : xCl ci C T N) (hty : ∀ k, k < N → parseFieldDescriptor (T k).2.2.1 = some (ty k)) (hcl : .classLink M.1.cls index C ∈ xWS) (hin : .instantiable C N ∈ xWS) (hini : .initialized C ∈ xWS)
    (hfs : ∀ j, j < N → defaultValue (ty j) = vp_V fs j) (hc : h.1 + 1 ≤ gC G) (hs : h.2.1 + N ≤ gS G) (kk : EX G M d (pc + 3) lv (.ref h.1 :: st) (xNew h N (.inr (ci, fs))) Q) : EX G M d pc lv st h Q := by
  intro p e R s m args below meth c n0 ls H locs hF hl hr hz ho h1 h2
  obtain ⟨hcc, hws, -, -⟩ := hk
  obtain ⟨f1, f2, f3, f4, f5, f6, f7, f8, f9, f10, f11, f12, f13, f14, f15, f16⟩ := id hF
  have hown := findClass_of_methodNamed f7
  have hKn := f12.1 ci _ hcc
  refine W.newcK f1 f2 hown (f9.use hcl) (f9.use hin) (f9.use hini) rfl hd (by omega) (by omega) hKn.2.1 hr.1 fun H1 kC hkC e1 z1 o1 => ?_
  rw [xCs h1, xCs h2]
  have hat : va_at (gD G) xcl (h.1, .inr (ci, fs)) H1 := ⟨_, hcc, (u_born ty (fun w hw => f9.use (args := args) hw) hws hKn hkC e1 hty).to hfs⟩
  exact kk p e R s m args below meth c n0 ls H1 locs hF hl (hr.push z1 o1 hat hc hs) (hz.trans (xKeepS.push fun q hq => o1 q (by rw [hr.1] at hq; exact hq))) ho (by show _ ≤ h.1 + 1; omega) (by show _ ≤ h.2.1 + N; omega)
theorem x_newa {atype : ArrayType} {ty : FieldType} {N : Nat} {a0 : vp_A} {w : Int32} (hd : decode M.2.1 pc = .ok (.newarray atype, 2)) (hty : newarray.typeOf atype = ty) (hpr : ∀ C, ty ≠ .object C) (ht : (gT G)[t0]? = some (cA, ty)) (hw : .arrayClass ty ∈ xWS) (hi : w = nI N) (hN : N < 2 ^ 20) (ha : ∀ cA : ClassId, vp_cell cA a0 = arrV cA N (fun _ => defaultValue ty)) (hby : componentBytes ty ≤ 8)
    (hc : h.1 + 1 ≤ gC G) (hs : h.2.1 + N ≤ gS G) (kk : EX G M d (pc + 2) lv (.ref h.1 :: st) (xNew h N (.inl (cA, a0))) Q) : EX G M d pc lv (.int w :: st) h Q := by
  subst hi
  subst hty
  intro p e R s m args below meth c n0 ls H locs hF hl hr hz ho h1 h2
  obtain ⟨f1, f2, f3, f4, f5, f6, f7, f8, f9, f10, f11, f12, f13, f14, f15, f16⟩ := id hF
  refine va_newaK f1 f2 (f9.use hw) rfl hd rfl (nI_pos (by omega)) (nI_clamp (by omega)) (by have := Nat.mul_le_mul_left N hby; omega) (by omega) (by omega) hr.1 fun H1 cA' e1 z1 o1 hAr hNm => ?_
  have hcA : cA' = cA := by
    have h3 := (f12.2 t0 _ ht).2
    have h4 : s.vm.findClass ("[" ++ (newarray.typeOf atype).toString) = some cA := by
      cases atype <;> exact h3
    exact Option.some.inj (hNm.symm.trans h4)
  subst hcA
  rw [xCs h1, xCs h2]
  have hat : va_at (gD G) xcl (h.1, .inl (cA', a0)) H1 := by
    show H1[h.1]? = some (vp_cell _ _)
    rw [ha]; exact e1
  exact kk p e R s m args below meth c n0 ls H1 locs hF hl (hr.push z1 o1 hat hc hs) (hz.trans (xKeepS.push fun q hq => o1 q (by rw [hr.1] at hq; exact hq))) ho (by show _ ≤ h.1 + 1; omega) (by show _ ≤ h.2.1 + N; omega)
theorem x_anew {C : String} {N : Nat} {w : Int32} (hd : decode M.2.1 pc = .ok (.anewarray index, 3)) (ht : (gT G)[t0]? = some (cA, .object C)) (hcl : .classLink M.1.cls index C ∈ xWS) (hw : .arrayOver (.object C) ∈ xWS) (hi : w = nI N) (hN : N < 2 ^ 20)
    (hc : h.1 + 1 ≤ gC G) (hs : h.2.1 + N ≤ gS G) (kk : EX G M d (pc + 3) lv (.ref h.1 :: st) (xNew h N (.inl (cA, N, .inr (.inr (.inr (.inr fun _ => none)))))) Q) : EX G M d pc lv (.int w :: st) h Q := by
  subst hi
  intro p e R s m args below meth c n0 ls H locs hF hl hr hz ho h1 h2
  obtain ⟨f1, f2, f3, f4, f5, f6, f7, f8, f9, f10, f11, f12, f13, f14, f15, f16⟩ := id hF
  have hown := findClass_of_methodNamed f7
  have hcl' := nI_clamp (n := N) (by omega)
  refine W.anew f1 f2 hown (f9.use hcl) (f9.use hw) rfl hd rfl (nI_pos (by omega)) (by rw [hcl']; omega) (by omega) (by rw [hcl']; omega) fun cA' kA comp g1 g2 g3 g4 => ?_
  obtain ⟨kA2, comp2, -, -, -, h4⟩ := (f12.2 t0 _ ht).2
  have hcA : cA' = cA := Option.some.inj (g1.symm.trans h4)
  subst hcA
  rw [hcl', xCs h1, xCs h2]
  generalize hH1 : H.push ({ cls := cA', slots := Array.replicate N .null, vm := .none } : Cell) = H1
  have z1 : H1.size = h.1 + 1 := by rw [← hH1, Array.size_push, hr.1]
  have e1 : H1[h.1]? = some (arrV cA' N (fun _ => .null)) := by rw [← hH1, ← hr.1, Array.getElem?_push_size, ← arrV_new]
  have o1 : ∀ q : Nat, q < h.1 → H1[q]? = H[q]? := fun q hq => by rw [← hH1, Array.getElem?_push, if_neg (by rw [hr.1]; omega)]
  have hat : va_at (gD G) xcl (h.1, .inl (cA', N, .inr (.inr (.inr (.inr fun _ => none))))) H1 := by
    show H1[h.1]? = some (vp_cell _ _)
    rw [vp_cell_q]; exact e1
  have K := kk p e R s m args below meth c n0 ls H1 locs hF hl (hr.push z1 o1 hat hc hs) (hz.trans (xKeepS.push fun q hq => o1 q (by rw [hr.1] at hq; exact hq))) ho (by show _ ≤ h.1 + 1; omega) (by show _ ≤ h.2.1 + N; omega)
  rw [hr.1]
  exact K
/-! what the JDK gives -/
theorem x_objInit (hd : decode M.2.1 pc = .ok (.invokespecial index, 3)) (hlk : .methodLink M.1.cls index Lib.objectInit ∈ xWS) (hi : .instanceMethod Lib.objectInit ∈ xWS) (hc : .code Lib.objectInit ⟨#[0xb1]⟩ 1 none ∈ xWS) (hW : (st.map fun v => v.category).sum ≤ 64)
    (kk : EX G M d (pc + 3) lv st h Q) : EX G M d pc lv (.ref a :: st) h Q := by
  intro p e R s m args below meth c n0 ls H locs hF hl hr hz ho h1 h2
  obtain ⟨f1, f2, f3, f4, f5, f6, f7, f8, f9, f10, f11, f12, f13, f14, f15, f16⟩ := id hF
  exact W.objInit f1 f2 (findClass_of_methodNamed f7) (f9.use hlk) (f9.use hi) (f9.use hc) rfl (hl.1.trans f3.symm) rfl hd (by omega) (by show 2 * 0 + _ + 12 ≤ _; omega) (kk p e R s m args below meth c n0 ls H locs hF hl hr hz ho h1 h2)
theorem x_max {x y : Int32} (hd : decode M.2.1 pc = .ok (.invokestatic index, 3)) (hlk : .methodLink M.1.cls index Lib.Math.max.name ∈ xWS) (hi : .static Lib.Math.max.name ∈ xWS) (hn : .initialized "java/lang/Math" ∈ xWS) (hc : .code Lib.Math.max.name Lib.Math.max.code 2 (some .int) ∈ xWS) (hW : (st.map fun v => v.category).sum ≤ 64)
    (kk : EX G M d (pc + 3) lv (.int (if x < y then y else x) :: st) h Q) : EX G M d pc lv (.int y :: .int x :: st) h Q := by
  intro p e R s m args below meth c n0 ls H locs hF hl hr hz ho h1 h2
  obtain ⟨f1, f2, f3, f4, f5, f6, f7, f8, f9, f10, f11, f12, f13, f14, f15, f16⟩ := id hF
  have hb1 := hr.2.1
  have hb2 := hr.2.2.1
  exact va_mmax f1 f2 (f3.trans hl.1.symm) (findClass_of_methodNamed f7) (f9.use hlk) (f9.use hi) (f9.use hn) (f9.use hc) (by omega) (by omega) (by omega) (by omega) hd (kk p e R s m args below meth c n0 ls H locs hF hl hr hz ho h1 h2)
theorem x_min {x y : Int32} (hd : decode M.2.1 pc = .ok (.invokestatic index, 3)) (hlk : .methodLink M.1.cls index Lib.Math.min.name ∈ xWS) (hi : .static Lib.Math.min.name ∈ xWS) (hn : .initialized "java/lang/Math" ∈ xWS) (hc : .code Lib.Math.min.name Lib.Math.min.code 2 (some .int) ∈ xWS) (hW : (st.map fun v => v.category).sum ≤ 64)
    (kk : EX G M d (pc + 3) lv (.int (if y < x then y else x) :: st) h Q) : EX G M d pc lv (.int y :: .int x :: st) h Q := by
  intro p e R s m args below meth c n0 ls H locs hF hl hr hz ho h1 h2
  obtain ⟨f1, f2, f3, f4, f5, f6, f7, f8, f9, f10, f11, f12, f13, f14, f15, f16⟩ := id hF
  have hb1 := hr.2.1
  have hb2 := hr.2.2.1
  exact va_mmin f1 f2 (f3.trans hl.1.symm) (findClass_of_methodNamed f7) (f9.use hlk) (f9.use hi) (f9.use hn) (f9.use hc) (by omega) (by omega) (by omega) (by omega) hd (kk p e R s m args below meth c n0 ls H locs hF hl hr hz ho h1 h2)
end XH
end
section
/-! 'throw new E()' -/
section XT
variable {p : Program} {l : Launch} {e : Env} {R : Room} {s : State} {m : MethodId} {args : Array Value} {below : List Frame} {meth : Method} {c : Code} {T : State} {locs : List Loc} {cells slots : Nat}
/-- the walk taken up anew, as if the invocation began where it stands -/
theorem xRebase (X : Stand p l e R s m args below meth c T locs cells slots) {k n : Nat} (hk : cells + k ≤ R.cells) (hn : slots + n ≤ R.slots) :
    Stand p l e { frames := R.frames, locals := R.locals, cells := k, slots := n } (T.setFrames (.invoking m args :: below)) m args below meth c T [] 0 0 := by
  obtain ⟨g0, hfr⟩ := X.frames_eq
  have hcur : T.cur < T.threads.size := State.cur_lt_of_frames hfr
  have hF : (T.setFrames (.invoking m args :: below)).frames = .invoking m args :: below := State.frames_setFrames _ hcur
  have heq : (T.setFrames (.invoking m args :: below)).setFrames T.frames = T := by
    rw [State.setFrames_setFrames]
    obtain ⟨th, hth, -⟩ := State.frames_cons hfr
    exact State.setFrames_self hth
  obtain ⟨t, ht, -⟩ := State.frames_cons hF
  have hcur' : (T.setFrames (.invoking m args :: below)).cur < (T.setFrames (.invoking m args :: below)).threads.size := State.cur_lt_of_frames hF
  refine ⟨X.admits, X.cas, X.clock, hF, ?_, ?_, X.method', X.code, X.here, X.tail, State.WarmedH.refl _, by rw [State.stackLimits_setFrames], by rw [State.stackBytes_setFrames], ?_⟩
  · have h0 := X.room
    obtain ⟨r1, r2, r3, r4⟩ := State.hasRoom_stack h0
    have r5 := State.hasRoom_real h0
    have hr := h0
    simp only [State.hasRoom, Bool.and_eq_true, decide_eq_true_eq] at hr
    rw [State.localsInUse_invoking X.frames X.method X.code] at r3 r4 r5
    rw [X.frames, List.length_cons] at r1 r2
    have hU : (T.setFrames (.invoking m args :: below)).localsInUse = stackWeight below + vmFrameWords + (c.maxLocals + 11) := State.localsInUse_invoking hF X.method' X.code
    have h1 := X.heapSize
    have h2 := X.used
    simp only [State.hasRoom, Bool.and_eq_true, decide_eq_true_eq, hF, hU, List.length_cons, State.stackLimits_setFrames, State.stackBytes_setFrames, X.limits, X.bytes]
    refine ⟨⟨⟨⟨by omega, by omega, by omega, by omega, by omega, hr.1.1.1.2.2.2.2.2⟩, ?_⟩, ?_⟩, X.book⟩
    · have := hr.1.1.2
      show T.heap.size + k ≤ e.platform.maxCells
      omega
    · have := hr.1.2
      show T.slotsUsed + n ≤ e.platform.maxSlots
      omega
  · have hh := X.hears
    have hal := X.warmed.alike
    cases below with
    | nil =>
      simp only [State.hears] at hh ⊢
      show (T.vm.method? m).any _ = true
      rw [hal.method?]; exact hh
    | cons f r =>
      cases f with
      | java g =>
        simp only [State.hears] at hh ⊢
        rw [State.code?_eq] at hh ⊢
        show (((T.vm.method? g.method).bind (·.code)).bind _).isSome = true
        rw [hal.method?]; exact hh
      | native _ => rfl
      | proc _ => rfl
      | _ =>
        simp only [State.hears] at hh ⊢
        show (T.vm.method? m).any _ = true
        rw [hal.method?]; exact hh
  · have h := (State.sameButNew.refl (T.setFrames (.invoking m args :: below)) ht).setFrames T.frames hcur'
    rw [heq] at h
    exact h
/-- nothing old has moved -/
theorem xOld {U : State} {k n : Nat} (h : s.sameButNew U [] k n) : ∀ q : Nat, q < s.heap.size → U.heap[q]? = s.heap[q]? := by
  intro q hq
  have hc : s.heap[q]? = some s.heap[q] := Array.getElem?_eq_getElem hq
  obtain ⟨c', h1, h2, h3, h4⟩ := h.2.2.2.2.2 q _ hc
  rw [h1, hc]
  congr 1
  rw [h2]
  have : c'.slots = (s.heap[q]).slots := by
    apply Array.ext h3
    intro i hi1 hi2
    have := h4 i (by simp)
    rw [Array.getElem?_eq_getElem hi1, Array.getElem?_eq_getElem hi2] at this
    exact Option.some.inj this
  rw [this]
end XT
section XT2
variable {G : xG} {M : xM} {d pc : Nat} {lv : List (Nat × Value)} {st : List Value} {h : xH} {Q : xR → xH → Prop}
/-- what 'throw new E()' needs of the tables -/
def xTn (own : String) (ik ic ci : Nat) : Prop := ∃ (E : String) (names : List String) (T0 : u_T), xcl[ci]? = some (E, T0, 0) ∧ Bundle.fit E = true ∧ (∀ n ∈ names, Bundle.fit n = true) ∧ names.length ≤ 4 ∧ .classLink own ik E ∈ xWS ∧ .initialized E ∈ xWS ∧ ∀ w ∈ Bundle.ownAtoms0 own ic E names, w ∈ xWS ∨ w ∈ xSW
set_option maxHeartbeats 2000000 in
theorem x_throw {ik ic ci : Nat} (d0 : decode M.2.1 pc = .ok (.new ik, 3)) (d3 : decode M.2.1 (pc + 3) = .ok (.dup, 1)) (d4 : decode M.2.1 (pc + 4) = .ok (.invokespecial ic, 3)) (d7 : decode M.2.1 (pc + 7) = .ok (.athrow, 1)) (hk : xTn M.1.cls ik ic ci) (hno : M.2.2.2.2 = []) (hL : (gL G).stackTraces = false)
    (hc : h.1 + 1 ≤ gC G) (hs : h.2.1 + 6 ≤ gS G) (hW : (st.map fun v => v.category).sum ≤ 64) (hq : Q (.inr h.1) (xNew h 6 (.inr (ci, [])))) : EX G M d pc lv st h Q := by
  intro p e R s m args below meth c n0 ls H locs hF hl hr hz ho h1 h2 T hT X
  subst hT
  obtain ⟨E, names, T0, hcl, hfE, hfn, hnl, hck, hci, hat⟩ := hk
  obtain ⟨f1, f2, f3, f4, f5, f6, f7, f8, f9, f10, f11, f12, f13, f14, f15, f16⟩ := id hF
  have hlocks : meth.locks = false := f5
  have hex := f6
  rw [hno] at hex
  have hex : c.exceptionTable.toList = [] := List.map_eq_nil_iff.mp hex
  have hszT : T.heap.size = h.1 := hr.1
  have htr : e.platform.stackTraces = false := (show e.platform.stackTraces = (gL G).stackTraces by rw [X.admits.platform]).trans hL
  have Y := xRebase X (k := 1) (n := 6) (by omega) (by omega)
  obtain ⟨s', hs'⟩ : ∃ z, z = T.setFrames (.invoking m args :: below) := ⟨_, rfl⟩
  rw [← hs'] at Y
  have hvm : s'.vm = T.vm := by rw [hs']; rfl
  have hhp : s'.heap = T.heap := by rw [hs']; rfl
  have hWs : s.WarmedH s'.vm := by rw [hvm]; exact X.warmed
  have w' : xWd s' := f9.at hWs
  have sd' : xSd s' := xSd.at f10 hWs (by rw [hhp]; exact hz)
  have K' := va_K.moved hWs.alike f12
  have hown' : s'.vm.findClass M.1.cls = some m.cls := by rw [hWs.alike.findClass]; exact findClass_of_methodNamed f7
  have hwords : ∀ w ∈ Bundle.ownAtoms0 M.1.cls ic E names, w.before args s' = true := fun w hw => by
    rcases hat w hw with a | a
    · exact w'.use a
    · exact xSd.use sd' a
  have hins : (Cond.instantiable E 6).before args s' = true := hwords _ (by simp [Bundle.ownAtoms0])
  obtain ⟨vm1, cX, kX, hfX, hkX, -, -, X1, st1⟩ := Y.newCold f1 (own := M.1.cls) (C := E) (index := ik) (n := 6) hown' (w'.use hck) hins (w'.use hci) (g := F0 m pc ls st) rfl (by rw [f2]; exact d0) (Nat.le_refl _) (Nat.le_refl _)
  generalize hT1 : (T.setVm vm1).pushCell { cls := cX, slots := kX.instanceTypes.map defaultValue, vm := .none } = T1 at X1 st1
  have hcellA : T1.heap[T.heap.size]? = some (freshCell cX kX) := by rw [← hT1]; exact State.heap_pushCell_size _ _
  have d3' : decode c.code (pc + 3) = .ok (.dup, 1) := by rw [f2]; exact d3
  obtain ⟨U, hst, hrun, hend, hWU, hsame, ce, hce, hoc⟩ := X1.ctorThrow0 f1 htr (own := M.1.cls) (cls := E) (names := names) (ic := ic) hown' hfE hfn hwords (fun x hx => nomatch hx) hfX hkX hcellA (by rw [hhp]; exact Nat.le_refl _)
    (g := F0 m (pc + 4) ls (.ref T.heap.size :: .ref T.heap.size :: st)) rfl (hl.1.trans f3.symm) rfl rfl (rest := st) rfl (by rw [f2]; exact d4) (by rw [f2]; exact d7) (fun x hx => by rw [hex] at hx; cases hx) (by show names.length + 3 < R.frames; omega)
    (by show 2 * 0 + (1 + (st.map fun v => v.category).sum) + _ ≤ R.locals; omega)
  have hold := xOld (s := s') (U := ({ U with vm := s'.vm } : State)) hsame
  have hold2 : ∀ q : Nat, q < T.heap.size → U.heap[q]? = T.heap[q]? := fun q hq' => by rw [← hhp]; exact hold q (by rw [hhp]; exact hq')
  have hsz : U.heap.size = h.1 + 1 := by
    have a1 : U.heap.size ≤ s'.heap.size + 1 := hsame.2.2.1
    have a2 : T.heap.size < U.heap.size := (Array.getElem?_eq_some_iff.mp hce).1
    rw [hhp] at a1
    omega
  have hcid : ce.cls = (gD G).1 ci := by
    have a1 := (K'.1 ci _ hcl).2.1
    exact Option.some.inj (hoc.cls.symm.trans a1)
  have hat2 : va_at (gD G) xcl (h.1, .inr (ci, [])) U.heap := ⟨_, hcl, ce, by rw [← hszT]; exact hce, hcid, hoc.vm, fun k hk => absurd hk (Nat.not_lt_zero k)⟩
  have hrep : xRep G (xNew h 6 (.inr (ci, []))) U.heap := hr.push hsz (fun q hq' => hold2 q (by rw [hszT]; exact hq')) hat2 hc hs
  have hB : T.sameButNew (U.setVm T.vm) [] 1 6 := by
    obtain ⟨b1, b2, b3, b4, b5, b6⟩ := hsame
    rw [hs'] at b1 b2 b3 b4 b5 b6
    refine ⟨?_, b2, b3, b4, b5, b6⟩
    have : (U.setVm T.vm) = ({ (T.setFrames (.invoking m args :: below)).setFrames (U.setVm T.vm).frames with heap := (U.setVm T.vm).heap, slotsUsed := (U.setVm T.vm).slotsUsed } : State) := b1
    rw [State.setFrames_setFrames] at this
    exact this
  have hsameS := X.same.trans (hB.setVm s.vm)
  rw [List.append_nil, xCs h1, xCs h2] at hsameS
  have hWfin : s.WarmedH U.vm := by
    rw [hs'] at hWU
    exact State.WarmedH.trans X.warmed hWU
  refine ⟨U, st1 _ ?_, .inr h.1, xNew h 6 (.inr (ci, [])), locs, hq, hrep, hz.trans (xKeepS.push hold2), hrun, by rw [← hszT]; exact hend, hWfin, hsameS, ho, by show _ ≤ h.1 + 1; omega, by show _ ≤ h.2.1 + 6; omega⟩
  show Steps p.tables e below (T1.setTop { method := m, pc := pc + 3, locals := ls, stack := .ref T.heap.size :: st, locked := none }) _
  jvm_step X1.here [X1.here.top, f1, d3', Value.category]
  exact hst
end XT2
end
section
/-! what each place of the code needs of the tables: written by a program -/
theorem cl_Gl : xCl 0 RGl TGl 7 := ⟨rfl, xSub _ [85, 87, 89, 91, 93, 95, 97] (by decide +kernel) (by decide +kernel), ⟨tyGl, tyGl_ok⟩, nmGl⟩
theorem ns_Gl : .instantiable RGl 7 ∈ xWS := xIn 60 (by decide +kernel) (by decide +kernel)
theorem ni_Gl : .initialized RGl ∈ xWS := xIn 4 (by decide +kernel) (by decide +kernel)
theorem cl_La : xCl 1 RLa TLa 6 := ⟨rfl, xSub _ [130, 132, 134, 136, 138, 140] (by decide +kernel) (by decide +kernel), ⟨tyLa, tyLa_ok⟩, nmLa⟩
theorem ns_La : .instantiable RLa 6 ∈ xWS := xIn 110 (by decide +kernel) (by decide +kernel)
theorem ni_La : .initialized RLa ∈ xWS := xIn 5 (by decide +kernel) (by decide +kernel)
theorem cl_Or : xCl 2 ROr TOr 6 := ⟨rfl, xSub _ [506, 508, 510, 512, 514, 516] (by decide +kernel) (by decide +kernel), ⟨tyOr, tyOr_ok⟩, nmOr⟩
theorem ns_Or : .instantiable ROr 6 ∈ xWS := xIn 483 (by decide +kernel) (by decide +kernel)
theorem ni_Or : .initialized ROr ∈ xWS := xIn 17 (by decide +kernel) (by decide +kernel)
theorem cl_Bk : xCl 3 RBk TBk 3 := ⟨rfl, xSub _ [44, 46, 48] (by decide +kernel) (by decide +kernel), ⟨tyBk, tyBk_ok⟩, nmBk⟩
theorem ns_Bk : .instantiable RBk 3 ∈ xWS := xIn 31 (by decide +kernel) (by decide +kernel)
theorem ni_Bk : .initialized RBk ∈ xWS := xIn 2 (by decide +kernel) (by decide +kernel)
theorem cl_Rk : xCl 4 RRk TRk 2 := ⟨rfl, xSub _ [104, 106] (by decide +kernel) (by decide +kernel), ⟨tyRk, tyRk_ok⟩, nmRk⟩
theorem ns_Rk : .instantiable RRk 2 ∈ xWS := xIn 53 (by decide +kernel) (by decide +kernel)
theorem ni_Rk : .initialized RRk ∈ xWS := xIn 3 (by decide +kernel) (by decide +kernel)
theorem cl_Sh : xCl 5 RSh TSh 4 := ⟨rfl, xSub _ [246, 248, 250, 252] (by decide +kernel) (by decide +kernel), ⟨tySh, tySh_ok⟩, nmSh⟩
theorem ns_Sh : .instantiable RSh 4 ∈ xWS := xIn 190 (by decide +kernel) (by decide +kernel)
theorem ni_Sh : .initialized RSh ∈ xWS := xIn 8 (by decide +kernel) (by decide +kernel)
theorem cl_St : xCl 6 RSt TSt 7 := ⟨rfl, xSub _ [156, 158, 160, 162, 164, 166, 168] (by decide +kernel) (by decide +kernel), ⟨tySt, tySt_ok⟩, nmSt⟩
theorem ns_St : .instantiable RSt 7 ∈ xWS := xIn 144 (by decide +kernel) (by decide +kernel)
theorem ni_St : .initialized RSt ∈ xWS := xIn 6 (by decide +kernel) (by decide +kernel)
theorem cl_Tr : xCl 7 RTr TTr 9 := ⟨rfl, xSub _ [221, 223, 225, 227, 229, 231, 233, 235, 237] (by decide +kernel) (by decide +kernel), ⟨tyTr, tyTr_ok⟩, nmTr⟩
theorem ns_Tr : .instantiable RTr 9 ∈ xWS := xIn 198 (by decide +kernel) (by decide +kernel)
theorem ni_Tr : .initialized RTr ∈ xWS := xIn 9 (by decide +kernel) (by decide +kernel)
theorem cl_Ti : xCl 8 RTi TTi 4 := ⟨rfl, xSub _ [181, 183, 185, 187] (by decide +kernel) (by decide +kernel), ⟨tyTi, tyTi_ok⟩, nmTi⟩
theorem ns_Ti : .instantiable RTi 4 ∈ xWS := xIn 172 (by decide +kernel) (by decide +kernel)
theorem ni_Ti : .initialized RTi ∈ xWS := xIn 7 (by decide +kernel) (by decide +kernel)
theorem cl_Ha : xCl 9 RHa THa 11 := ⟨rfl, xSub _ [266, 268, 270, 272, 274, 276, 278, 280, 282, 284, 286] (by decide +kernel) (by decide +kernel), ⟨tyHa, tyHa_ok⟩, nmHa⟩
theorem ns_Ha : .instantiable RHa 11 ∈ xWS := xIn 21 (by decide +kernel) (by decide +kernel)
theorem ni_Ha : .initialized RHa ∈ xWS := xIn 1 (by decide +kernel) (by decide +kernel)
theorem cl_Mo : xCl 10 RMo TMo 53 := ⟨rfl, xSub _ [922, 924, 926, 928, 930, 932, 934, 936, 938, 940, 942, 944, 946, 948, 950, 952, 954, 956, 958, 960, 962, 964, 966, 968, 970, 972, 974, 976, 978, 980, 982, 984, 986, 988, 990, 992, 994, 996, 998, 1000, 1002, 1004, 1006, 1008, 1010, 1012, 1014, 1016, 1018, 1020, 1022, 1024, 1026] (by decide +kernel) (by decide +kernel), ⟨tyMo, tyMo_ok⟩, nmMo⟩
theorem ns_Mo : .instantiable RMo 53 ∈ xWS := xIn 864 (by decide +kernel) (by decide +kernel)
theorem ni_Mo : .initialized RMo ∈ xWS := xIn 10 (by decide +kernel) (by decide +kernel)
theorem ni_Nse : .initialized RNse ∈ xWS := xIn 16 (by decide +kernel) (by decide +kernel)
theorem ni_Iae : .initialized RIae ∈ xWS := xIn 14 (by decide +kernel) (by decide +kernel)
theorem ni_Ise : .initialized RIse ∈ xWS := xIn 15 (by decide +kernel) (by decide +kernel)
theorem ni_Ioo : .initialized RIoo ∈ xWS := xIn 19 (by decide +kernel) (by decide +kernel)
theorem ni_Lw : .initialized RLw ∈ xWS := xIn 0 (by decide +kernel) (by decide +kernel)
theorem h_Ha_init : xHas m_Ha_init := Or.inl ⟨rfl, xIn 24 (by decide +kernel) (by decide +kernel)⟩
theorem h_Bk_init : xHas m_Bk_init := Or.inl ⟨rfl, xIn 34 (by decide +kernel) (by decide +kernel)⟩
theorem h_Rk_init : xHas m_Rk_init := Or.inl ⟨rfl, xIn 56 (by decide +kernel) (by decide +kernel)⟩
theorem h_Gl_init : xHas m_Gl_init := Or.inl ⟨rfl, xIn 63 (by decide +kernel) (by decide +kernel)⟩
theorem h_La_init : xHas m_La_init := Or.inl ⟨rfl, xIn 113 (by decide +kernel) (by decide +kernel)⟩
theorem h_St_init : xHas m_St_init := Or.inl ⟨rfl, xIn 147 (by decide +kernel) (by decide +kernel)⟩
theorem h_Ti_init : xHas m_Ti_init := Or.inl ⟨rfl, xIn 175 (by decide +kernel) (by decide +kernel)⟩
theorem h_Sh_init : xHas m_Sh_init := Or.inl ⟨rfl, xIn 193 (by decide +kernel) (by decide +kernel)⟩
theorem h_Tr_init : xHas m_Tr_init := Or.inl ⟨rfl, xIn 201 (by decide +kernel) (by decide +kernel)⟩
theorem h_Ha_fit : xHas m_Ha_fit := Or.inl ⟨rfl, xIn 292 (by decide +kernel) (by decide +kernel)⟩
theorem h_Rk_smallestFor : xHas m_Rk_smallestFor := Or.inl ⟨rfl, xIn 296 (by decide +kernel) (by decide +kernel)⟩
theorem h_Gl_surface : xHas m_Gl_surface := Or.inl ⟨rfl, xIn 300 (by decide +kernel) (by decide +kernel)⟩
theorem h_Ha_area : xHas m_Ha_area := Or.inl ⟨rfl, xIn 304 (by decide +kernel) (by decide +kernel)⟩
theorem h_Ha_unplannedArea : xHas m_Ha_unplannedArea := Or.inl ⟨rfl, xIn 308 (by decide +kernel) (by decide +kernel)⟩
theorem h_Tr_isGrown : xHas m_Tr_isGrown := Or.inl ⟨rfl, xIn 312 (by decide +kernel) (by decide +kernel)⟩
theorem h_Rk_surface : xHas m_Rk_surface := Or.inl ⟨rfl, xIn 317 (by decide +kernel) (by decide +kernel)⟩
theorem h_Ha_waitingArea : xHas m_Ha_waitingArea := Or.inl ⟨rfl, xIn 321 (by decide +kernel) (by decide +kernel)⟩
theorem h_Tr_waitingSurface : xHas m_Tr_waitingSurface := Or.inl ⟨rfl, xIn 325 (by decide +kernel) (by decide +kernel)⟩
theorem h_Tr_surface : xHas m_Tr_surface := Or.inl ⟨rfl, xIn 329 (by decide +kernel) (by decide +kernel)⟩
theorem h_Ha_total : xHas m_Ha_total := Or.inl ⟨rfl, xIn 333 (by decide +kernel) (by decide +kernel)⟩
theorem h_Ha_countSheets : xHas m_Ha_countSheets := Or.inl ⟨rfl, xIn 337 (by decide +kernel) (by decide +kernel)⟩
theorem h_Lw_sheet : xHas m_Lw_sheet := Or.inr (xIn 340 (by decide +kernel) (by decide +kernel))
theorem h_Ha_sheet : xHas m_Ha_sheet := Or.inl ⟨rfl, xIn 346 (by decide +kernel) (by decide +kernel)⟩
theorem h_Ha_isLength : xHas m_Ha_isLength := Or.inl ⟨rfl, xIn 349 (by decide +kernel) (by decide +kernel)⟩
theorem h_Ha_findFreeSlot : xHas m_Ha_findFreeSlot := Or.inl ⟨rfl, xIn 417 (by decide +kernel) (by decide +kernel)⟩
theorem h_Gl_become : xHas m_Gl_become := Or.inl ⟨rfl, xIn 436 (by decide +kernel) (by decide +kernel)⟩
theorem h_Ha_bringIn : xHas m_Ha_bringIn := Or.inl ⟨rfl, xIn 440 (by decide +kernel) (by decide +kernel)⟩
theorem h_Lw_flaw : xHas m_Lw_flaw := Or.inr (xIn 443 (by decide +kernel) (by decide +kernel))
theorem h_Ha_flaw : xHas m_Ha_flaw := Or.inl ⟨rfl, xIn 448 (by decide +kernel) (by decide +kernel)⟩
theorem h_Ha_findSheet : xHas m_Ha_findSheet := Or.inl ⟨rfl, xIn 452 (by decide +kernel) (by decide +kernel)⟩
theorem h_Ha_liesIn : xHas m_Ha_liesIn := Or.inl ⟨rfl, xIn 470 (by decide +kernel) (by decide +kernel)⟩
theorem h_Gl_addFlaw : xHas m_Gl_addFlaw := Or.inl ⟨rfl, xIn 474 (by decide +kernel) (by decide +kernel)⟩
theorem h_Lw_order : xHas m_Lw_order := Or.inr (xIn 477 (by decide +kernel) (by decide +kernel))
theorem h_Ha_order : xHas m_Ha_order := Or.inl ⟨rfl, xIn 481 (by decide +kernel) (by decide +kernel)⟩
theorem h_Or_init : xHas m_Or_init := Or.inl ⟨rfl, xIn 486 (by decide +kernel) (by decide +kernel)⟩
theorem h_Bk_add : xHas m_Bk_add := Or.inl ⟨rfl, xIn 522 (by decide +kernel) (by decide +kernel)⟩
theorem h_Or_goesBefore : xHas m_Or_goesBefore := Or.inl ⟨rfl, xIn 526 (by decide +kernel) (by decide +kernel)⟩
theorem h_Lw_plan : xHas m_Lw_plan := Or.inr (xIn 529 (by decide +kernel) (by decide +kernel))
theorem h_Ha_plan : xHas m_Ha_plan := Or.inl ⟨rfl, xIn 533 (by decide +kernel) (by decide +kernel)⟩
theorem h_St_fill : xHas m_St_fill := Or.inl ⟨rfl, xIn 537 (by decide +kernel) (by decide +kernel)⟩
theorem h_La_clear : xHas m_La_clear := Or.inl ⟨rfl, xIn 541 (by decide +kernel) (by decide +kernel)⟩
theorem h_St_stackColumn : xHas m_St_stackColumn := Or.inl ⟨rfl, xIn 545 (by decide +kernel) (by decide +kernel)⟩
theorem h_St_takeFirst : xHas m_St_takeFirst := Or.inl ⟨rfl, xIn 549 (by decide +kernel) (by decide +kernel)⟩
theorem h_St_take : xHas m_St_take := Or.inl ⟨rfl, xIn 553 (by decide +kernel) (by decide +kernel)⟩
theorem h_Bk_at : xHas m_Bk_at := Or.inl ⟨rfl, xIn 557 (by decide +kernel) (by decide +kernel)⟩
theorem h_La_countOf : xHas m_La_countOf := Or.inl ⟨rfl, xIn 561 (by decide +kernel) (by decide +kernel)⟩
theorem h_Gl_isClear : xHas m_Gl_isClear := Or.inl ⟨rfl, xIn 565 (by decide +kernel) (by decide +kernel)⟩
theorem h_La_put : xHas m_La_put := Or.inl ⟨rfl, xIn 569 (by decide +kernel) (by decide +kernel)⟩
theorem h_Ha_adoptLayout : xHas m_Ha_adoptLayout := Or.inl ⟨rfl, xIn 573 (by decide +kernel) (by decide +kernel)⟩
theorem h_Tr_grow : xHas m_Tr_grow := Or.inl ⟨rfl, xIn 577 (by decide +kernel) (by decide +kernel)⟩
theorem h_Tr_clear : xHas m_Tr_clear := Or.inl ⟨rfl, xIn 581 (by decide +kernel) (by decide +kernel)⟩
theorem h_La_columns : xHas m_La_columns := Or.inl ⟨rfl, xIn 585 (by decide +kernel) (by decide +kernel)⟩
theorem h_La_columnWidth : xHas m_La_columnWidth := Or.inl ⟨rfl, xIn 592 (by decide +kernel) (by decide +kernel)⟩
theorem h_La_rowsIn : xHas m_La_rowsIn := Or.inl ⟨rfl, xIn 596 (by decide +kernel) (by decide +kernel)⟩
theorem h_La_rowWidth : xHas m_La_rowWidth := Or.inl ⟨rfl, xIn 600 (by decide +kernel) (by decide +kernel)⟩
theorem h_La_isIn : xHas m_La_isIn := Or.inl ⟨rfl, xIn 604 (by decide +kernel) (by decide +kernel)⟩
theorem h_Tr_add : xHas m_Tr_add := Or.inl ⟨rfl, xIn 608 (by decide +kernel) (by decide +kernel)⟩
theorem h_Tr_growColumn : xHas m_Tr_growColumn := Or.inl ⟨rfl, xIn 612 (by decide +kernel) (by decide +kernel)⟩
theorem h_La_rowHeight : xHas m_La_rowHeight := Or.inl ⟨rfl, xIn 617 (by decide +kernel) (by decide +kernel)⟩
theorem h_Tr_growRow : xHas m_Tr_growRow := Or.inl ⟨rfl, xIn 621 (by decide +kernel) (by decide +kernel)⟩
theorem h_Tr_growCell : xHas m_Tr_growCell := Or.inl ⟨rfl, xIn 626 (by decide +kernel) (by decide +kernel)⟩
theorem h_Tr_beginSecond : xHas m_Tr_beginSecond := Or.inl ⟨rfl, xIn 630 (by decide +kernel) (by decide +kernel)⟩
theorem h_Tr_addRest : xHas m_Tr_addRest := Or.inl ⟨rfl, xIn 634 (by decide +kernel) (by decide +kernel)⟩
theorem h_Bk_takeUp : xHas m_Bk_takeUp := Or.inl ⟨rfl, xIn 638 (by decide +kernel) (by decide +kernel)⟩
theorem h_Lw_exact : xHas m_Lw_exact := Or.inr (xIn 642 (by decide +kernel) (by decide +kernel))
theorem h_Ha_exact : xHas m_Ha_exact := Or.inl ⟨rfl, xIn 646 (by decide +kernel) (by decide +kernel)⟩
theorem h_Ti_callNames : xHas m_Ti_callNames := Or.inl ⟨rfl, xIn 650 (by decide +kernel) (by decide +kernel)⟩
theorem h_Ti_addName : xHas m_Ti_addName := Or.inl ⟨rfl, xIn 654 (by decide +kernel) (by decide +kernel)⟩
theorem h_Ti_namesAreThere : xHas m_Ti_namesAreThere := Or.inl ⟨rfl, xIn 658 (by decide +kernel) (by decide +kernel)⟩
theorem h_Ti_namesAreOpen : xHas m_Ti_namesAreOpen := Or.inl ⟨rfl, xIn 663 (by decide +kernel) (by decide +kernel)⟩
theorem h_Ti_timesNamed : xHas m_Ti_timesNamed := Or.inl ⟨rfl, xIn 667 (by decide +kernel) (by decide +kernel)⟩
theorem h_Ti_fill : xHas m_Ti_fill := Or.inl ⟨rfl, xIn 671 (by decide +kernel) (by decide +kernel)⟩
theorem h_Ti_placeFrom : xHas m_Ti_placeFrom := Or.inl ⟨rfl, xIn 676 (by decide +kernel) (by decide +kernel)⟩
theorem h_Ti_placeAt : xHas m_Ti_placeAt := Or.inl ⟨rfl, xIn 682 (by decide +kernel) (by decide +kernel)⟩
theorem h_La_fitsOn : xHas m_La_fitsOn := Or.inl ⟨rfl, xIn 687 (by decide +kernel) (by decide +kernel)⟩
theorem h_La_columnHeight : xHas m_La_columnHeight := Or.inl ⟨rfl, xIn 692 (by decide +kernel) (by decide +kernel)⟩
theorem h_La_dropLast : xHas m_La_dropLast := Or.inl ⟨rfl, xIn 698 (by decide +kernel) (by decide +kernel)⟩
theorem h_Lw_node : xHas m_Lw_node := Or.inr (xIn 701 (by decide +kernel) (by decide +kernel))
theorem h_Ha_node : xHas m_Ha_node := Or.inl ⟨rfl, xIn 706 (by decide +kernel) (by decide +kernel)⟩
theorem h_Ha_findPlanned : xHas m_Ha_findPlanned := Or.inl ⟨rfl, xIn 710 (by decide +kernel) (by decide +kernel)⟩
theorem h_Tr_has : xHas m_Tr_has := Or.inl ⟨rfl, xIn 714 (by decide +kernel) (by decide +kernel)⟩
theorem h_Tr_tell : xHas m_Tr_tell := Or.inl ⟨rfl, xIn 733 (by decide +kernel) (by decide +kernel)⟩
theorem h_Tr_isCut : xHas m_Tr_isCut := Or.inl ⟨rfl, xIn 737 (by decide +kernel) (by decide +kernel)⟩
theorem h_Lw_nodes : xHas m_Lw_nodes := Or.inr (xIn 740 (by decide +kernel) (by decide +kernel))
theorem h_Ha_nodes : xHas m_Ha_nodes := Or.inl ⟨rfl, xIn 744 (by decide +kernel) (by decide +kernel)⟩
theorem h_Lw_score : xHas m_Lw_score := Or.inr (xIn 747 (by decide +kernel) (by decide +kernel))
theorem h_Ha_score : xHas m_Ha_score := Or.inl ⟨rfl, xIn 751 (by decide +kernel) (by decide +kernel)⟩
theorem h_Tr_firstWaiting : xHas m_Tr_firstWaiting := Or.inl ⟨rfl, xIn 755 (by decide +kernel) (by decide +kernel)⟩
theorem h_Ha_letWait : xHas m_Ha_letWait := Or.inl ⟨rfl, xIn 760 (by decide +kernel) (by decide +kernel)⟩
theorem h_Bk_finish : xHas m_Bk_finish := Or.inl ⟨rfl, xIn 764 (by decide +kernel) (by decide +kernel)⟩
theorem h_Ha_putAway : xHas m_Ha_putAway := Or.inl ⟨rfl, xIn 769 (by decide +kernel) (by decide +kernel)⟩
theorem h_Rk_addPart : xHas m_Rk_addPart := Or.inl ⟨rfl, xIn 773 (by decide +kernel) (by decide +kernel)⟩
theorem h_Gl_becomePart : xHas m_Gl_becomePart := Or.inl ⟨rfl, xIn 777 (by decide +kernel) (by decide +kernel)⟩
theorem h_Ha_clearAwayIfEmpty : xHas m_Ha_clearAwayIfEmpty := Or.inl ⟨rfl, xIn 787 (by decide +kernel) (by decide +kernel)⟩
theorem h_Lw_broke : xHas m_Lw_broke := Or.inr (xIn 791 (by decide +kernel) (by decide +kernel))
theorem h_Ha_broke : xHas m_Ha_broke := Or.inl ⟨rfl, xIn 795 (by decide +kernel) (by decide +kernel)⟩
theorem h_Ha_reopenPanes : xHas m_Ha_reopenPanes := Or.inl ⟨rfl, xIn 799 (by decide +kernel) (by decide +kernel)⟩
theorem h_Tr_endOf : xHas m_Tr_endOf := Or.inl ⟨rfl, xIn 803 (by decide +kernel) (by decide +kernel)⟩
theorem h_Bk_reopen : xHas m_Bk_reopen := Or.inl ⟨rfl, xIn 807 (by decide +kernel) (by decide +kernel)⟩
theorem h_Tr_breakFrom : xHas m_Tr_breakFrom := Or.inl ⟨rfl, xIn 811 (by decide +kernel) (by decide +kernel)⟩
theorem h_Lw_cancel : xHas m_Lw_cancel := Or.inr (xIn 815 (by decide +kernel) (by decide +kernel))
theorem h_Ha_cancel : xHas m_Ha_cancel := Or.inl ⟨rfl, xIn 819 (by decide +kernel) (by decide +kernel)⟩
theorem h_Lw_use : xHas m_Lw_use := Or.inr (xIn 822 (by decide +kernel) (by decide +kernel))
theorem h_Ha_use : xHas m_Ha_use := Or.inl ⟨rfl, xIn 826 (by decide +kernel) (by decide +kernel)⟩
theorem h_Ha_findOffcut : xHas m_Ha_findOffcut := Or.inl ⟨rfl, xIn 830 (by decide +kernel) (by decide +kernel)⟩
theorem h_Rk_has : xHas m_Rk_has := Or.inl ⟨rfl, xIn 834 (by decide +kernel) (by decide +kernel)⟩
theorem h_Rk_remove : xHas m_Rk_remove := Or.inl ⟨rfl, xIn 839 (by decide +kernel) (by decide +kernel)⟩
theorem h_Lw_rack : xHas m_Lw_rack := Or.inr (xIn 843 (by decide +kernel) (by decide +kernel))
theorem h_Ha_rack : xHas m_Ha_rack := Or.inl ⟨rfl, xIn 847 (by decide +kernel) (by decide +kernel)⟩
theorem h_Lw_flawed : xHas m_Lw_flawed := Or.inr (xIn 850 (by decide +kernel) (by decide +kernel))
theorem h_Ha_flawed : xHas m_Ha_flawed := Or.inl ⟨rfl, xIn 854 (by decide +kernel) (by decide +kernel)⟩
theorem h_Lw_panes : xHas m_Lw_panes := Or.inr (xIn 857 (by decide +kernel) (by decide +kernel))
theorem h_Ha_panes : xHas m_Ha_panes := Or.inl ⟨rfl, xIn 861 (by decide +kernel) (by decide +kernel)⟩
theorem h_Mo_init : xHas m_Mo_init := Or.inl ⟨rfl, xIn 867 (by decide +kernel) (by decide +kernel)⟩
theorem h_Mo_thrown : xHas m_Mo_thrown := Or.inl ⟨rfl, xIn 1033 (by decide +kernel) (by decide +kernel)⟩
theorem h_Mo_sheet : xHas m_Mo_sheet := Or.inl ⟨rfl, xIn 1037 (by decide +kernel) (by decide +kernel)⟩
theorem h_Mo_isLength : xHas m_Mo_isLength := Or.inl ⟨rfl, xIn 1040 (by decide +kernel) (by decide +kernel)⟩
theorem h_Mo_sheets : xHas m_Mo_sheets := Or.inl ⟨rfl, xIn 1044 (by decide +kernel) (by decide +kernel)⟩
theorem h_Mo_make : xHas m_Mo_make := Or.inl ⟨rfl, xIn 1048 (by decide +kernel) (by decide +kernel)⟩
theorem h_Mo_flaw : xHas m_Mo_flaw := Or.inl ⟨rfl, xIn 1052 (by decide +kernel) (by decide +kernel)⟩
theorem h_Mo_find : xHas m_Mo_find := Or.inl ⟨rfl, xIn 1056 (by decide +kernel) (by decide +kernel)⟩
theorem h_Mo_putFlaw : xHas m_Mo_putFlaw := Or.inl ⟨rfl, xIn 1060 (by decide +kernel) (by decide +kernel)⟩
theorem h_Mo_order : xHas m_Mo_order := Or.inl ⟨rfl, xIn 1064 (by decide +kernel) (by decide +kernel)⟩
theorem h_Mo_plan : xHas m_Mo_plan := Or.inl ⟨rfl, xIn 1068 (by decide +kernel) (by decide +kernel)⟩
theorem h_Mo_strips : xHas m_Mo_strips := Or.inl ⟨rfl, xIn 1072 (by decide +kernel) (by decide +kernel)⟩
theorem h_Mo_choose : xHas m_Mo_choose := Or.inl ⟨rfl, xIn 1076 (by decide +kernel) (by decide +kernel)⟩
theorem h_Mo_isPossible : xHas m_Mo_isPossible := Or.inl ⟨rfl, xIn 1080 (by decide +kernel) (by decide +kernel)⟩
theorem h_Mo_meets : xHas m_Mo_meets := Or.inl ⟨rfl, xIn 1084 (by decide +kernel) (by decide +kernel)⟩
theorem h_Mo_overlap : xHas m_Mo_overlap := Or.inl ⟨rfl, xIn 1087 (by decide +kernel) (by decide +kernel)⟩
theorem h_Mo_isBefore : xHas m_Mo_isBefore := Or.inl ⟨rfl, xIn 1091 (by decide +kernel) (by decide +kernel)⟩
theorem h_Mo_lay : xHas m_Mo_lay := Or.inl ⟨rfl, xIn 1095 (by decide +kernel) (by decide +kernel)⟩
theorem h_Mo_adopt : xHas m_Mo_adopt := Or.inl ⟨rfl, xIn 1099 (by decide +kernel) (by decide +kernel)⟩
theorem h_Mo_push : xHas m_Mo_push := Or.inl ⟨rfl, xIn 1103 (by decide +kernel) (by decide +kernel)⟩
theorem h_Mo_at : xHas m_Mo_at := Or.inl ⟨rfl, xIn 1107 (by decide +kernel) (by decide +kernel)⟩
theorem h_Mo_grow : xHas m_Mo_grow := Or.inl ⟨rfl, xIn 1111 (by decide +kernel) (by decide +kernel)⟩
theorem h_Mo_reach : xHas m_Mo_reach := Or.inl ⟨rfl, xIn 1115 (by decide +kernel) (by decide +kernel)⟩
theorem h_Mo_paneAt : xHas m_Mo_paneAt := Or.inl ⟨rfl, xIn 1119 (by decide +kernel) (by decide +kernel)⟩
theorem h_Mo_columnWidth : xHas m_Mo_columnWidth := Or.inl ⟨rfl, xIn 1123 (by decide +kernel) (by decide +kernel)⟩
theorem h_Mo_rowWidth : xHas m_Mo_rowWidth := Or.inl ⟨rfl, xIn 1127 (by decide +kernel) (by decide +kernel)⟩
theorem h_Mo_rowHeight : xHas m_Mo_rowHeight := Or.inl ⟨rfl, xIn 1131 (by decide +kernel) (by decide +kernel)⟩
theorem h_Mo_split : xHas m_Mo_split := Or.inl ⟨rfl, xIn 1135 (by decide +kernel) (by decide +kernel)⟩
theorem h_Mo_exact : xHas m_Mo_exact := Or.inl ⟨rfl, xIn 1139 (by decide +kernel) (by decide +kernel)⟩
theorem h_Mo_isOrder : xHas m_Mo_isOrder := Or.inl ⟨rfl, xIn 1143 (by decide +kernel) (by decide +kernel)⟩
theorem h_Mo_hasOpen : xHas m_Mo_hasOpen := Or.inl ⟨rfl, xIn 1147 (by decide +kernel) (by decide +kernel)⟩
theorem h_Mo_isFound : xHas m_Mo_isFound := Or.inl ⟨rfl, xIn 1151 (by decide +kernel) (by decide +kernel)⟩
theorem h_Mo_name : xHas m_Mo_name := Or.inl ⟨rfl, xIn 1155 (by decide +kernel) (by decide +kernel)⟩
theorem h_Mo_columns : xHas m_Mo_columns := Or.inl ⟨rfl, xIn 1159 (by decide +kernel) (by decide +kernel)⟩
theorem h_Mo_rowsOf : xHas m_Mo_rowsOf := Or.inl ⟨rfl, xIn 1163 (by decide +kernel) (by decide +kernel)⟩
theorem h_Mo_fits : xHas m_Mo_fits := Or.inl ⟨rfl, xIn 1167 (by decide +kernel) (by decide +kernel)⟩
theorem h_Mo_score : xHas m_Mo_score := Or.inl ⟨rfl, xIn 1171 (by decide +kernel) (by decide +kernel)⟩
theorem h_Mo_arrive : xHas m_Mo_arrive := Or.inl ⟨rfl, xIn 1175 (by decide +kernel) (by decide +kernel)⟩
theorem h_Mo_store : xHas m_Mo_store := Or.inl ⟨rfl, xIn 1179 (by decide +kernel) (by decide +kernel)⟩
theorem h_Mo_leave : xHas m_Mo_leave := Or.inl ⟨rfl, xIn 1183 (by decide +kernel) (by decide +kernel)⟩
theorem h_Mo_broke : xHas m_Mo_broke := Or.inl ⟨rfl, xIn 1187 (by decide +kernel) (by decide +kernel)⟩
theorem h_Mo_cancel : xHas m_Mo_cancel := Or.inl ⟨rfl, xIn 1191 (by decide +kernel) (by decide +kernel)⟩
theorem h_Mo_nodes : xHas m_Mo_nodes := Or.inl ⟨rfl, xIn 1195 (by decide +kernel) (by decide +kernel)⟩
theorem h_Mo_node : xHas m_Mo_node := Or.inl ⟨rfl, xIn 1199 (by decide +kernel) (by decide +kernel)⟩
theorem h_Mo_use : xHas m_Mo_use := Or.inl ⟨rfl, xIn 1203 (by decide +kernel) (by decide +kernel)⟩
theorem h_Mo_isOffcut : xHas m_Mo_isOffcut := Or.inl ⟨rfl, xIn 1207 (by decide +kernel) (by decide +kernel)⟩
theorem h_Mo_moveOffcut : xHas m_Mo_moveOffcut := Or.inl ⟨rfl, xIn 1211 (by decide +kernel) (by decide +kernel)⟩
theorem h_Mo_rack : xHas m_Mo_rack := Or.inl ⟨rfl, xIn 1215 (by decide +kernel) (by decide +kernel)⟩
theorem h_Mo_fit : xHas m_Mo_fit := Or.inl ⟨rfl, xIn 1219 (by decide +kernel) (by decide +kernel)⟩
theorem h_Mo_flawed : xHas m_Mo_flawed := Or.inl ⟨rfl, xIn 1223 (by decide +kernel) (by decide +kernel)⟩
theorem h_Mo_panes : xHas m_Mo_panes := Or.inl ⟨rfl, xIn 1227 (by decide +kernel) (by decide +kernel)⟩
theorem h_Mo_area : xHas m_Mo_area := Or.inl ⟨rfl, xIn 1231 (by decide +kernel) (by decide +kernel)⟩
theorem h_Mo_total : xHas m_Mo_total := Or.inl ⟨rfl, xIn 1235 (by decide +kernel) (by decide +kernel)⟩
theorem j_max_s : .static Lib.Math.max.name ∈ xWS := xIn 587 (by decide +kernel) (by decide +kernel)
theorem j_max_c : .code Lib.Math.max.name Lib.Math.max.code 2 (some .int) ∈ xWS := xIn 588 (by decide +kernel) (by decide +kernel)
theorem j_min_s : .static Lib.Math.min.name ∈ xWS := xIn 781 (by decide +kernel) (by decide +kernel)
theorem j_min_c : .code Lib.Math.min.name Lib.Math.min.code 2 (some .int) ∈ xWS := xIn 782 (by decide +kernel) (by decide +kernel)
theorem j_math : .initialized "java/lang/Math" ∈ xWS := xIn 18 (by decide +kernel) (by decide +kernel)
theorem j_obj_i : .instanceMethod Lib.objectInit ∈ xWS := xIn 26 (by decide +kernel) (by decide +kernel)
theorem j_obj_c : .code Lib.objectInit ⟨#[0xb1]⟩ 1 none ∈ xWS := xIn 27 (by decide +kernel) (by decide +kernel)
theorem aw_int : .arrayClass .int ∈ xWS := xIn 51 (by decide +kernel) (by decide +kernel)
theorem aw_long : .arrayClass .long ∈ xWS := xIn 1236 (by decide +kernel) (by decide +kernel)
theorem aw_boolean : .arrayClass .boolean ∈ xWS := xIn 1029 (by decide +kernel) (by decide +kernel)
theorem aw_Sh : .arrayOver (.object RSh) ∈ xWS := xIn 29 (by decide +kernel) (by decide +kernel)
theorem aw_Or : .arrayOver (.object ROr) ∈ xWS := xIn 37 (by decide +kernel) (by decide +kernel)
theorem aw_Gl : .arrayOver (.object RGl) ∈ xWS := xIn 59 (by decide +kernel) (by decide +kernel)
theorem k_Ha_3 : .methodLink RHa 3 Lib.objectInit ∈ xWS := xIn 25 (by decide +kernel) (by decide +kernel)
theorem nw_Ha_9 : .classLink RHa 9 RSh ∈ xWS := xIn 28 (by decide +kernel) (by decide +kernel)
theorem pf_Ha_11 : xPf RHa 11 9 0 (.array (.object "GlassHall$Sheet")) := ⟨_, _, cl_Ha, by decide, rfl, rfl, (by decide +kernel), xIn 255 (by decide +kernel) (by decide +kernel)⟩
theorem nw_Ha_15 : .classLink RHa 15 RBk ∈ xWS := xIn 30 (by decide +kernel) (by decide +kernel)
theorem k_Ha_17 : xLkI RHa 17 m_Bk_init 0 := ⟨⟨Or.inr ⟨"GlassHall", xIn 32 (by decide +kernel) (by decide +kernel)⟩, h_Bk_init, (by decide +kernel), ⟨(by decide +kernel), (by decide +kernel)⟩, (by decide +kernel)⟩, xIn 33 (by decide +kernel) (by decide +kernel), rfl, xIn 34 (by decide +kernel) (by decide +kernel)⟩
theorem pf_Ha_18 : xPf RHa 18 9 1 (.object "GlassHall$OrderBook") := ⟨_, _, cl_Ha, by decide, rfl, rfl, (by decide +kernel), xIn 256 (by decide +kernel) (by decide +kernel)⟩
theorem nw_Ha_22 : .classLink RHa 22 RRk ∈ xWS := xIn 52 (by decide +kernel) (by decide +kernel)
theorem k_Ha_24 : xLkI RHa 24 m_Rk_init 0 := ⟨⟨Or.inl (xIn 54 (by decide +kernel) (by decide +kernel)), h_Rk_init, (by decide +kernel), ⟨(by decide +kernel), (by decide +kernel)⟩, (by decide +kernel)⟩, xIn 55 (by decide +kernel) (by decide +kernel), rfl, xIn 56 (by decide +kernel) (by decide +kernel)⟩
theorem pf_Ha_25 : xPf RHa 25 9 2 (.object "GlassHall$Rack") := ⟨_, _, cl_Ha, by decide, rfl, rfl, (by decide +kernel), xIn 257 (by decide +kernel) (by decide +kernel)⟩
theorem nw_Ha_29 : .classLink RHa 29 RLa ∈ xWS := xIn 109 (by decide +kernel) (by decide +kernel)
theorem k_Ha_31 : xLkI RHa 31 m_La_init 0 := ⟨⟨Or.inr ⟨"GlassHall", xIn 111 (by decide +kernel) (by decide +kernel)⟩, h_La_init, (by decide +kernel), ⟨(by decide +kernel), (by decide +kernel)⟩, (by decide +kernel)⟩, xIn 112 (by decide +kernel) (by decide +kernel), rfl, xIn 113 (by decide +kernel) (by decide +kernel)⟩
theorem pf_Ha_32 : xPf RHa 32 9 3 (.object "GlassHall$Layout") := ⟨_, _, cl_Ha, by decide, rfl, rfl, (by decide +kernel), xIn 258 (by decide +kernel) (by decide +kernel)⟩
theorem nw_Ha_36 : .classLink RHa 36 RSt ∈ xWS := xIn 143 (by decide +kernel) (by decide +kernel)
theorem gf_Ha_18 : xFd RHa 18 9 1 := ⟨_, _, _, cl_Ha, by decide, rfl, Or.inl (xIn 256 (by decide +kernel) (by decide +kernel))⟩
theorem gf_Ha_32 : xFd RHa 32 9 3 := ⟨_, _, _, cl_Ha, by decide, rfl, Or.inl (xIn 258 (by decide +kernel) (by decide +kernel))⟩
theorem k_Ha_38 : xLkI RHa 38 m_St_init 2 := ⟨⟨Or.inl (xIn 145 (by decide +kernel) (by decide +kernel)), h_St_init, (by decide +kernel), ⟨(by decide +kernel), (by decide +kernel)⟩, (by decide +kernel)⟩, xIn 146 (by decide +kernel) (by decide +kernel), rfl, xIn 147 (by decide +kernel) (by decide +kernel)⟩
theorem pf_Ha_41 : xPf RHa 41 9 4 (.object "GlassHall$Strips") := ⟨_, _, cl_Ha, by decide, rfl, rfl, (by decide +kernel), xIn 259 (by decide +kernel) (by decide +kernel)⟩
theorem nw_Ha_45 : .classLink RHa 45 RTi ∈ xWS := xIn 171 (by decide +kernel) (by decide +kernel)
theorem k_Ha_47 : xLkI RHa 47 m_Ti_init 2 := ⟨⟨Or.inl (xIn 173 (by decide +kernel) (by decide +kernel)), h_Ti_init, (by decide +kernel), ⟨(by decide +kernel), (by decide +kernel)⟩, (by decide +kernel)⟩, xIn 174 (by decide +kernel) (by decide +kernel), rfl, xIn 175 (by decide +kernel) (by decide +kernel)⟩
theorem pf_Ha_48 : xPf RHa 48 9 5 (.object "GlassHall$Trial") := ⟨_, _, cl_Ha, by decide, rfl, rfl, (by decide +kernel), xIn 260 (by decide +kernel) (by decide +kernel)⟩
theorem gf_Ha_11 : xFd RHa 11 9 0 := ⟨_, _, _, cl_Ha, by decide, rfl, Or.inl (xIn 255 (by decide +kernel) (by decide +kernel))⟩
theorem k_Ha_52 : xLkI RHa 52 m_Sh_init 0 := ⟨⟨Or.inr ⟨"GlassHall", xIn 191 (by decide +kernel) (by decide +kernel)⟩, h_Sh_init, (by decide +kernel), ⟨(by decide +kernel), (by decide +kernel)⟩, (by decide +kernel)⟩, xIn 192 (by decide +kernel) (by decide +kernel), rfl, xIn 193 (by decide +kernel) (by decide +kernel)⟩
theorem k_Bk_3 : .methodLink RBk 3 Lib.objectInit ∈ xWS := xIn 35 (by decide +kernel) (by decide +kernel)
theorem nw_Bk_9 : .classLink RBk 9 ROr ∈ xWS := xIn 36 (by decide +kernel) (by decide +kernel)
theorem pf_Bk_11 : xPf RBk 11 3 0 (.array (.object "GlassHall$Order")) := ⟨_, _, cl_Bk, by decide, rfl, rfl, (by decide +kernel), xIn 38 (by decide +kernel) (by decide +kernel)⟩
theorem pf_Bk_17 : xPf RBk 17 3 1 (.array (.int)) := ⟨_, _, cl_Bk, by decide, rfl, rfl, (by decide +kernel), xIn 39 (by decide +kernel) (by decide +kernel)⟩
theorem k_Rk_3 : .methodLink RRk 3 Lib.objectInit ∈ xWS := xIn 57 (by decide +kernel) (by decide +kernel)
theorem nw_Rk_9 : .classLink RRk 9 RGl ∈ xWS := xIn 58 (by decide +kernel) (by decide +kernel)
theorem pf_Rk_11 : xPf RRk 11 4 0 (.array (.object "GlassHall$Glass")) := ⟨_, _, cl_Rk, by decide, rfl, rfl, (by decide +kernel), xIn 100 (by decide +kernel) (by decide +kernel)⟩
theorem gf_Rk_11 : xFd RRk 11 4 0 := ⟨_, _, _, cl_Rk, by decide, rfl, Or.inl (xIn 100 (by decide +kernel) (by decide +kernel))⟩
theorem k_Rk_17 : xLkI RRk 17 m_Gl_init 0 := ⟨⟨Or.inr ⟨"GlassHall", xIn 61 (by decide +kernel) (by decide +kernel)⟩, h_Gl_init, (by decide +kernel), ⟨(by decide +kernel), (by decide +kernel)⟩, (by decide +kernel)⟩, xIn 62 (by decide +kernel) (by decide +kernel), rfl, xIn 63 (by decide +kernel) (by decide +kernel)⟩
theorem k_Gl_3 : .methodLink RGl 3 Lib.objectInit ∈ xWS := xIn 64 (by decide +kernel) (by decide +kernel)
theorem pf_Gl_9 : xPf RGl 9 0 0 (.array (.int)) := ⟨_, _, cl_Gl, by decide, rfl, rfl, (by decide +kernel), xIn 65 (by decide +kernel) (by decide +kernel)⟩
theorem pf_Gl_15 : xPf RGl 15 0 1 (.array (.int)) := ⟨_, _, cl_Gl, by decide, rfl, rfl, (by decide +kernel), xIn 67 (by decide +kernel) (by decide +kernel)⟩
theorem pf_Gl_18 : xPf RGl 18 0 2 (.array (.int)) := ⟨_, _, cl_Gl, by decide, rfl, rfl, (by decide +kernel), xIn 69 (by decide +kernel) (by decide +kernel)⟩
theorem pf_Gl_21 : xPf RGl 21 0 3 (.array (.int)) := ⟨_, _, cl_Gl, by decide, rfl, rfl, (by decide +kernel), xIn 71 (by decide +kernel) (by decide +kernel)⟩
theorem k_La_3 : .methodLink RLa 3 Lib.objectInit ∈ xWS := xIn 114 (by decide +kernel) (by decide +kernel)
theorem pf_La_9 : xPf RLa 9 1 0 (.array (.int)) := ⟨_, _, cl_La, by decide, rfl, rfl, (by decide +kernel), xIn 115 (by decide +kernel) (by decide +kernel)⟩
theorem pf_La_15 : xPf RLa 15 1 1 (.array (.int)) := ⟨_, _, cl_La, by decide, rfl, rfl, (by decide +kernel), xIn 118 (by decide +kernel) (by decide +kernel)⟩
theorem pf_La_18 : xPf RLa 18 1 2 (.array (.int)) := ⟨_, _, cl_La, by decide, rfl, rfl, (by decide +kernel), xIn 121 (by decide +kernel) (by decide +kernel)⟩
theorem pf_La_21 : xPf RLa 21 1 3 (.array (.int)) := ⟨_, _, cl_La, by decide, rfl, rfl, (by decide +kernel), xIn 124 (by decide +kernel) (by decide +kernel)⟩
theorem pf_La_24 : xPf RLa 24 1 4 (.array (.int)) := ⟨_, _, cl_La, by decide, rfl, rfl, (by decide +kernel), xIn 125 (by decide +kernel) (by decide +kernel)⟩
theorem k_St_3 : .methodLink RSt 3 Lib.objectInit ∈ xWS := xIn 148 (by decide +kernel) (by decide +kernel)
theorem pf_St_9 : xPf RSt 9 6 0 (.object "GlassHall$OrderBook") := ⟨_, _, cl_St, by decide, rfl, rfl, (by decide +kernel), xIn 149 (by decide +kernel) (by decide +kernel)⟩
theorem pf_St_15 : xPf RSt 15 6 1 (.object "GlassHall$Layout") := ⟨_, _, cl_St, by decide, rfl, rfl, (by decide +kernel), xIn 150 (by decide +kernel) (by decide +kernel)⟩
theorem k_Ti_3 : .methodLink RTi 3 Lib.objectInit ∈ xWS := xIn 176 (by decide +kernel) (by decide +kernel)
theorem pf_Ti_9 : xPf RTi 9 8 2 (.array (.int)) := ⟨_, _, cl_Ti, by decide, rfl, rfl, (by decide +kernel), xIn 179 (by decide +kernel) (by decide +kernel)⟩
theorem pf_Ti_15 : xPf RTi 15 8 0 (.object "GlassHall$OrderBook") := ⟨_, _, cl_Ti, by decide, rfl, rfl, (by decide +kernel), xIn 177 (by decide +kernel) (by decide +kernel)⟩
theorem pf_Ti_19 : xPf RTi 19 8 1 (.object "GlassHall$Layout") := ⟨_, _, cl_Ti, by decide, rfl, rfl, (by decide +kernel), xIn 178 (by decide +kernel) (by decide +kernel)⟩
theorem k_Sh_1 : .methodLink RSh 1 Lib.objectInit ∈ xWS := xIn 194 (by decide +kernel) (by decide +kernel)
theorem nw_Sh_7 : .classLink RSh 7 RGl ∈ xWS := xIn 195 (by decide +kernel) (by decide +kernel)
theorem k_Sh_9 : xLkI RSh 9 m_Gl_init 0 := ⟨⟨Or.inr ⟨"GlassHall", xIn 196 (by decide +kernel) (by decide +kernel)⟩, h_Gl_init, (by decide +kernel), ⟨(by decide +kernel), (by decide +kernel)⟩, (by decide +kernel)⟩, xIn 62 (by decide +kernel) (by decide +kernel), rfl, xIn 63 (by decide +kernel) (by decide +kernel)⟩
theorem pf_Sh_10 : xPf RSh 10 5 0 (.object "GlassHall$Glass") := ⟨_, _, cl_Sh, by decide, rfl, rfl, (by decide +kernel), xIn 240 (by decide +kernel) (by decide +kernel)⟩
theorem nw_Sh_16 : .classLink RSh 16 RTr ∈ xWS := xIn 197 (by decide +kernel) (by decide +kernel)
theorem k_Sh_18 : xLkI RSh 18 m_Tr_init 0 := ⟨⟨Or.inr ⟨"GlassHall", xIn 199 (by decide +kernel) (by decide +kernel)⟩, h_Tr_init, (by decide +kernel), ⟨(by decide +kernel), (by decide +kernel)⟩, (by decide +kernel)⟩, xIn 200 (by decide +kernel) (by decide +kernel), rfl, xIn 201 (by decide +kernel) (by decide +kernel)⟩
theorem pf_Sh_19 : xPf RSh 19 5 1 (.object "GlassHall$Tree") := ⟨_, _, cl_Sh, by decide, rfl, rfl, (by decide +kernel), xIn 242 (by decide +kernel) (by decide +kernel)⟩
theorem k_Tr_3 : .methodLink RTr 3 Lib.objectInit ∈ xWS := xIn 202 (by decide +kernel) (by decide +kernel)
theorem pf_Tr_9 : xPf RTr 9 7 0 (.array (.int)) := ⟨_, _, cl_Tr, by decide, rfl, rfl, (by decide +kernel), xIn 203 (by decide +kernel) (by decide +kernel)⟩
theorem pf_Tr_15 : xPf RTr 15 7 1 (.array (.int)) := ⟨_, _, cl_Tr, by decide, rfl, rfl, (by decide +kernel), xIn 205 (by decide +kernel) (by decide +kernel)⟩
theorem pf_Tr_18 : xPf RTr 18 7 2 (.array (.int)) := ⟨_, _, cl_Tr, by decide, rfl, rfl, (by decide +kernel), xIn 207 (by decide +kernel) (by decide +kernel)⟩
theorem pf_Tr_21 : xPf RTr 21 7 3 (.array (.int)) := ⟨_, _, cl_Tr, by decide, rfl, rfl, (by decide +kernel), xIn 209 (by decide +kernel) (by decide +kernel)⟩
theorem pf_Tr_24 : xPf RTr 24 7 4 (.array (.int)) := ⟨_, _, cl_Tr, by decide, rfl, rfl, (by decide +kernel), xIn 211 (by decide +kernel) (by decide +kernel)⟩
theorem pf_Tr_27 : xPf RTr 27 7 5 (.array (.int)) := ⟨_, _, cl_Tr, by decide, rfl, rfl, (by decide +kernel), xIn 213 (by decide +kernel) (by decide +kernel)⟩
theorem pf_Tr_30 : xPf RTr 30 7 6 (.array (.int)) := ⟨_, _, cl_Tr, by decide, rfl, rfl, (by decide +kernel), xIn 215 (by decide +kernel) (by decide +kernel)⟩
theorem pf_Tr_33 : xPf RTr 33 7 7 (.array (.int)) := ⟨_, _, cl_Tr, by decide, rfl, rfl, (by decide +kernel), xIn 217 (by decide +kernel) (by decide +kernel)⟩
theorem gf_Ha_25 : xFd RHa 25 9 2 := ⟨_, _, _, cl_Ha, by decide, rfl, Or.inl (xIn 257 (by decide +kernel) (by decide +kernel))⟩
theorem k_Ha_218 : xLkV RHa 218 m_Rk_smallestFor 2 4 := ⟨⟨Or.inl (xIn 293 (by decide +kernel) (by decide +kernel)), h_Rk_smallestFor, (by decide +kernel), ⟨(by decide +kernel), (by decide +kernel)⟩, (by decide +kernel)⟩, xIn 294 (by decide +kernel) (by decide +kernel), xIn 295 (by decide +kernel) (by decide +kernel), _, _, rfl⟩
theorem gf_Rk_18 : xFd RRk 18 4 1 := ⟨_, _, _, cl_Rk, by decide, rfl, Or.inl (xIn 102 (by decide +kernel) (by decide +kernel))⟩
theorem gf_Rk_30 : xFd RRk 30 0 4 := ⟨_, _, _, cl_Gl, by decide, rfl, Or.inl (xIn 76 (by decide +kernel) (by decide +kernel))⟩
theorem gf_Rk_33 : xFd RRk 33 0 5 := ⟨_, _, _, cl_Gl, by decide, rfl, Or.inl (xIn 80 (by decide +kernel) (by decide +kernel))⟩
theorem k_Rk_36 : xLkV RRk 36 m_Gl_surface 0 0 := ⟨⟨Or.inl (xIn 297 (by decide +kernel) (by decide +kernel)), h_Gl_surface, (by decide +kernel), ⟨(by decide +kernel), (by decide +kernel)⟩, (by decide +kernel)⟩, xIn 298 (by decide +kernel) (by decide +kernel), xIn 299 (by decide +kernel) (by decide +kernel), _, _, rfl⟩
theorem gf_Gl_24 : xFd RGl 24 0 4 := ⟨_, _, _, cl_Gl, by decide, rfl, Or.inl (xIn 73 (by decide +kernel) (by decide +kernel))⟩
theorem gf_Gl_28 : xFd RGl 28 0 5 := ⟨_, _, _, cl_Gl, by decide, rfl, Or.inl (xIn 78 (by decide +kernel) (by decide +kernel))⟩
theorem k_Ha_246 : xLkV RHa 246 m_Ha_unplannedArea 0 9 := ⟨⟨Or.inl (xIn 305 (by decide +kernel) (by decide +kernel)), h_Ha_unplannedArea, (by decide +kernel), ⟨(by decide +kernel), (by decide +kernel)⟩, (by decide +kernel)⟩, xIn 307 (by decide +kernel) (by decide +kernel), xInS 0 11 (by decide +kernel) rfl, _, _, rfl⟩
theorem gf_Ha_249 : xFd RHa 249 9 8 := ⟨_, _, _, cl_Ha, by decide, rfl, Or.inl (xIn 263 (by decide +kernel) (by decide +kernel))⟩
theorem k_Ha_252 : xLkV RHa 252 m_Rk_surface 0 4 := ⟨⟨Or.inl (xIn 314 (by decide +kernel) (by decide +kernel)), h_Rk_surface, (by decide +kernel), ⟨(by decide +kernel), (by decide +kernel)⟩, (by decide +kernel)⟩, xIn 315 (by decide +kernel) (by decide +kernel), xIn 316 (by decide +kernel) (by decide +kernel), _, _, rfl⟩
theorem gf_Ha_253 : xFd RHa 253 9 9 := ⟨_, _, _, cl_Ha, by decide, rfl, Or.inl (xIn 264 (by decide +kernel) (by decide +kernel))⟩
theorem gf_Ha_190 : xFd RHa 190 9 10 := ⟨_, _, _, cl_Ha, by decide, rfl, Or.inl (xIn 265 (by decide +kernel) (by decide +kernel))⟩
theorem k_Ha_256 : xLkV RHa 256 m_Ha_waitingArea 0 9 := ⟨⟨Or.inl (xIn 318 (by decide +kernel) (by decide +kernel)), h_Ha_waitingArea, (by decide +kernel), ⟨(by decide +kernel), (by decide +kernel)⟩, (by decide +kernel)⟩, xIn 320 (by decide +kernel) (by decide +kernel), xInS 1 11 (by decide +kernel) rfl, _, _, rfl⟩
theorem gf_Ha_77 : xFd RHa 77 9 7 := ⟨_, _, _, cl_Ha, by decide, rfl, Or.inl (xIn 262 (by decide +kernel) (by decide +kernel))⟩
theorem gf_Ha_267 : xFd RHa 267 5 2 := ⟨_, _, _, cl_Sh, by decide, rfl, Or.inl (xIn 244 (by decide +kernel) (by decide +kernel))⟩
theorem gf_Ha_104 : xFd RHa 104 5 1 := ⟨_, _, _, cl_Sh, by decide, rfl, Or.inl (xIn 243 (by decide +kernel) (by decide +kernel))⟩
theorem k_Ha_108 : xLkV RHa 108 m_Tr_isGrown 0 7 := ⟨⟨Or.inl (xIn 309 (by decide +kernel) (by decide +kernel)), h_Tr_isGrown, (by decide +kernel), ⟨(by decide +kernel), (by decide +kernel)⟩, (by decide +kernel)⟩, xIn 310 (by decide +kernel) (by decide +kernel), xIn 311 (by decide +kernel) (by decide +kernel), _, _, rfl⟩
theorem gf_Ha_67 : xFd RHa 67 5 0 := ⟨_, _, _, cl_Sh, by decide, rfl, Or.inl (xIn 241 (by decide +kernel) (by decide +kernel))⟩
theorem k_Ha_81 : xLkV RHa 81 m_Gl_surface 0 0 := ⟨⟨Or.inl (xIn 313 (by decide +kernel) (by decide +kernel)), h_Gl_surface, (by decide +kernel), ⟨(by decide +kernel), (by decide +kernel)⟩, (by decide +kernel)⟩, xIn 298 (by decide +kernel) (by decide +kernel), xIn 299 (by decide +kernel) (by decide +kernel), _, _, rfl⟩
theorem gf_Tr_36 : xFd RTr 36 7 8 := ⟨_, _, _, cl_Tr, by decide, rfl, Or.inl (xIn 219 (by decide +kernel) (by decide +kernel))⟩
theorem k_Ha_322 : xLkV RHa 322 m_Tr_waitingSurface 0 7 := ⟨⟨Or.inl (xIn 322 (by decide +kernel) (by decide +kernel)), h_Tr_waitingSurface, (by decide +kernel), ⟨(by decide +kernel), (by decide +kernel)⟩, (by decide +kernel)⟩, xIn 323 (by decide +kernel) (by decide +kernel), xIn 324 (by decide +kernel) (by decide +kernel), _, _, rfl⟩
theorem gf_Tr_33 : xFd RTr 33 7 7 := ⟨_, _, _, cl_Tr, by decide, rfl, Or.inl (xIn 217 (by decide +kernel) (by decide +kernel))⟩
theorem k_Tr_93 : xLkV RTr 93 m_Tr_surface 1 7 := ⟨⟨Or.inl (xIn 326 (by decide +kernel) (by decide +kernel)), h_Tr_surface, (by decide +kernel), ⟨(by decide +kernel), (by decide +kernel)⟩, (by decide +kernel)⟩, xIn 327 (by decide +kernel) (by decide +kernel), xIn 328 (by decide +kernel) (by decide +kernel), _, _, rfl⟩
theorem gf_Tr_21 : xFd RTr 21 7 3 := ⟨_, _, _, cl_Tr, by decide, rfl, Or.inl (xIn 209 (by decide +kernel) (by decide +kernel))⟩
theorem gf_Tr_24 : xFd RTr 24 7 4 := ⟨_, _, _, cl_Tr, by decide, rfl, Or.inl (xIn 211 (by decide +kernel) (by decide +kernel))⟩
theorem k_Ha_259 : xLkV RHa 259 m_Ha_countSheets 1 9 := ⟨⟨Or.inl (xIn 334 (by decide +kernel) (by decide +kernel)), h_Ha_countSheets, (by decide +kernel), ⟨(by decide +kernel), (by decide +kernel)⟩, (by decide +kernel)⟩, xIn 336 (by decide +kernel) (by decide +kernel), xInS 2 11 (by decide +kernel) rfl, _, _, rfl⟩
theorem gf_Ha_121 : xFd RHa 121 3 2 := ⟨_, _, _, cl_Bk, by decide, rfl, Or.inl (xIn 43 (by decide +kernel) (by decide +kernel))⟩
theorem gf_Ha_263 : xFd RHa 263 4 1 := ⟨_, _, _, cl_Rk, by decide, rfl, Or.inl (xIn 103 (by decide +kernel) (by decide +kernel))⟩
theorem gf_Ha_264 : xFd RHa 264 9 6 := ⟨_, _, _, cl_Ha, by decide, rfl, Or.inl (xIn 261 (by decide +kernel) (by decide +kernel))⟩
theorem k_Lw_7 : xLkV RLw 7 m_Ha_sheet 2 9 := ⟨⟨Or.inl (xIn 343 (by decide +kernel) (by decide +kernel)), h_Ha_sheet, (by decide +kernel), ⟨(by decide +kernel), (by decide +kernel)⟩, (by decide +kernel)⟩, xIn 344 (by decide +kernel) (by decide +kernel), xIn 345 (by decide +kernel) (by decide +kernel), _, _, rfl⟩
theorem k_Ha_53 : xLkS RHa 53 m_Ha_isLength 1 := ⟨⟨Or.inl (xIn 347 (by decide +kernel) (by decide +kernel)), h_Ha_isLength, (by decide +kernel), ⟨(by decide +kernel), (by decide +kernel)⟩, (by decide +kernel)⟩, xIn 348 (by decide +kernel) (by decide +kernel), ni_Ha⟩
theorem nw_Ha_57 : .classLink RHa 57 RIae ∈ xWS := xIn 350 (by decide +kernel) (by decide +kernel)
theorem k_Ha_59 : .methodLink RHa 59 (Bundle.init0 RIae) ∈ xWS := xIn 392 (by decide +kernel) (by decide +kernel)
theorem k_Ha_60 : xLkV RHa 60 m_Ha_findFreeSlot 0 9 := ⟨⟨Or.inl (xIn 414 (by decide +kernel) (by decide +kernel)), h_Ha_findFreeSlot, (by decide +kernel), ⟨(by decide +kernel), (by decide +kernel)⟩, (by decide +kernel)⟩, xIn 416 (by decide +kernel) (by decide +kernel), xInS 4 11 (by decide +kernel) rfl, _, _, rfl⟩
theorem nw_Ha_64 : .classLink RHa 64 RIse ∈ xWS := xIn 418 (by decide +kernel) (by decide +kernel)
theorem k_Ha_66 : .methodLink RHa 66 (Bundle.init0 RIse) ∈ xWS := xIn 427 (by decide +kernel) (by decide +kernel)
theorem k_Ha_71 : xLkV RHa 71 m_Gl_become 2 0 := ⟨⟨Or.inl (xIn 433 (by decide +kernel) (by decide +kernel)), h_Gl_become, (by decide +kernel), ⟨(by decide +kernel), (by decide +kernel)⟩, (by decide +kernel)⟩, xIn 434 (by decide +kernel) (by decide +kernel), xIn 435 (by decide +kernel) (by decide +kernel), _, _, rfl⟩
theorem pf_Ha_77 : xPd RHa 77 9 7 (.long) := ⟨_, _, _, cl_Ha, by decide, rfl, rfl, (by decide +kernel), Or.inl (xIn 262 (by decide +kernel) (by decide +kernel))⟩
theorem k_Ha_85 : xLkV RHa 85 m_Ha_bringIn 1 9 := ⟨⟨Or.inl (xIn 437 (by decide +kernel) (by decide +kernel)), h_Ha_bringIn, (by decide +kernel), ⟨(by decide +kernel), (by decide +kernel)⟩, (by decide +kernel)⟩, xIn 439 (by decide +kernel) (by decide +kernel), xInS 5 11 (by decide +kernel) rfl, _, _, rfl⟩
theorem pf_Gl_24 : xPd RGl 24 0 4 (.int) := ⟨_, _, _, cl_Gl, by decide, rfl, rfl, (by decide +kernel), Or.inl (xIn 73 (by decide +kernel) (by decide +kernel))⟩
theorem pf_Gl_28 : xPd RGl 28 0 5 (.int) := ⟨_, _, _, cl_Gl, by decide, rfl, rfl, (by decide +kernel), Or.inl (xIn 78 (by decide +kernel) (by decide +kernel))⟩
theorem pf_Gl_31 : xPd RGl 31 0 6 (.int) := ⟨_, _, _, cl_Gl, by decide, rfl, rfl, (by decide +kernel), Or.inl (xIn 83 (by decide +kernel) (by decide +kernel))⟩
theorem pf_Ha_267 : xPd RHa 267 5 2 (.boolean) := ⟨_, _, _, cl_Sh, by decide, rfl, rfl, (by decide +kernel), Or.inl (xIn 244 (by decide +kernel) (by decide +kernel))⟩
theorem pf_Ha_271 : xPd RHa 271 5 3 (.int) := ⟨_, _, _, cl_Sh, by decide, rfl, rfl, (by decide +kernel), Or.inl (xIn 245 (by decide +kernel) (by decide +kernel))⟩
theorem pf_Ha_264 : xPd RHa 264 9 6 (.int) := ⟨_, _, _, cl_Ha, by decide, rfl, rfl, (by decide +kernel), Or.inl (xIn 261 (by decide +kernel) (by decide +kernel))⟩
theorem gf_Ha_271 : xFd RHa 271 5 3 := ⟨_, _, _, cl_Sh, by decide, rfl, Or.inl (xIn 245 (by decide +kernel) (by decide +kernel))⟩
theorem k_Lw_17 : xLkV RLw 17 m_Ha_flaw 5 9 := ⟨⟨Or.inl (xIn 445 (by decide +kernel) (by decide +kernel)), h_Ha_flaw, (by decide +kernel), ⟨(by decide +kernel), (by decide +kernel)⟩, (by decide +kernel)⟩, xIn 446 (by decide +kernel) (by decide +kernel), xIn 447 (by decide +kernel) (by decide +kernel), _, _, rfl⟩
theorem k_Ha_89 : xLkV RHa 89 m_Ha_findSheet 1 9 := ⟨⟨Or.inl (xIn 449 (by decide +kernel) (by decide +kernel)), h_Ha_findSheet, (by decide +kernel), ⟨(by decide +kernel), (by decide +kernel)⟩, (by decide +kernel)⟩, xIn 451 (by decide +kernel) (by decide +kernel), xInS 6 11 (by decide +kernel) rfl, _, _, rfl⟩
theorem gf_Ha_93 : xFd RHa 93 0 4 := ⟨_, _, _, cl_Gl, by decide, rfl, Or.inl (xIn 75 (by decide +kernel) (by decide +kernel))⟩
theorem k_Ha_97 : xLkS RHa 97 m_Ha_liesIn 3 := ⟨⟨Or.inl (xIn 468 (by decide +kernel) (by decide +kernel)), h_Ha_liesIn, (by decide +kernel), ⟨(by decide +kernel), (by decide +kernel)⟩, (by decide +kernel)⟩, xIn 469 (by decide +kernel) (by decide +kernel), ni_Ha⟩
theorem gf_Ha_101 : xFd RHa 101 0 5 := ⟨_, _, _, cl_Gl, by decide, rfl, Or.inl (xIn 79 (by decide +kernel) (by decide +kernel))⟩
theorem gf_Ha_114 : xFd RHa 114 0 6 := ⟨_, _, _, cl_Gl, by decide, rfl, Or.inl (xIn 84 (by decide +kernel) (by decide +kernel))⟩
theorem k_Ha_117 : xLkV RHa 117 m_Gl_addFlaw 4 0 := ⟨⟨Or.inl (xIn 471 (by decide +kernel) (by decide +kernel)), h_Gl_addFlaw, (by decide +kernel), ⟨(by decide +kernel), (by decide +kernel)⟩, (by decide +kernel)⟩, xIn 472 (by decide +kernel) (by decide +kernel), xIn 473 (by decide +kernel) (by decide +kernel), _, _, rfl⟩
theorem nw_Ha_147 : .classLink RHa 147 RNse ∈ xWS := xIn 453 (by decide +kernel) (by decide +kernel)
theorem k_Ha_149 : .methodLink RHa 149 (Bundle.init0 RNse) ∈ xWS := xIn 462 (by decide +kernel) (by decide +kernel)
theorem gf_Gl_31 : xFd RGl 31 0 6 := ⟨_, _, _, cl_Gl, by decide, rfl, Or.inl (xIn 83 (by decide +kernel) (by decide +kernel))⟩
theorem gf_Gl_9 : xFd RGl 9 0 0 := ⟨_, _, _, cl_Gl, by decide, rfl, Or.inl (xIn 65 (by decide +kernel) (by decide +kernel))⟩
theorem gf_Gl_15 : xFd RGl 15 0 1 := ⟨_, _, _, cl_Gl, by decide, rfl, Or.inl (xIn 67 (by decide +kernel) (by decide +kernel))⟩
theorem gf_Gl_18 : xFd RGl 18 0 2 := ⟨_, _, _, cl_Gl, by decide, rfl, Or.inl (xIn 69 (by decide +kernel) (by decide +kernel))⟩
theorem gf_Gl_21 : xFd RGl 21 0 3 := ⟨_, _, _, cl_Gl, by decide, rfl, Or.inl (xIn 71 (by decide +kernel) (by decide +kernel))⟩
theorem k_Lw_23 : xLkV RLw 23 m_Ha_order 4 9 := ⟨⟨Or.inl (xIn 478 (by decide +kernel) (by decide +kernel)), h_Ha_order, (by decide +kernel), ⟨(by decide +kernel), (by decide +kernel)⟩, (by decide +kernel)⟩, xIn 479 (by decide +kernel) (by decide +kernel), xIn 480 (by decide +kernel) (by decide +kernel), _, _, rfl⟩
theorem nw_Ha_124 : .classLink RHa 124 ROr ∈ xWS := xIn 482 (by decide +kernel) (by decide +kernel)
theorem k_Ha_126 : xLkI RHa 126 m_Or_init 4 := ⟨⟨Or.inl (xIn 484 (by decide +kernel) (by decide +kernel)), h_Or_init, (by decide +kernel), ⟨(by decide +kernel), (by decide +kernel)⟩, (by decide +kernel)⟩, xIn 485 (by decide +kernel) (by decide +kernel), rfl, xIn 486 (by decide +kernel) (by decide +kernel)⟩
theorem k_Ha_129 : xLkV RHa 129 m_Bk_add 1 3 := ⟨⟨Or.inl (xIn 519 (by decide +kernel) (by decide +kernel)), h_Bk_add, (by decide +kernel), ⟨(by decide +kernel), (by decide +kernel)⟩, (by decide +kernel)⟩, xIn 520 (by decide +kernel) (by decide +kernel), xIn 521 (by decide +kernel) (by decide +kernel), _, _, rfl⟩
theorem k_Or_1 : .methodLink ROr 1 Lib.objectInit ∈ xWS := xIn 487 (by decide +kernel) (by decide +kernel)
theorem pf_Or_7 : xPf ROr 7 2 0 (.int) := ⟨_, _, cl_Or, by decide, rfl, rfl, (by decide +kernel), xIn 488 (by decide +kernel) (by decide +kernel)⟩
theorem pf_Or_13 : xPf ROr 13 2 1 (.int) := ⟨_, _, cl_Or, by decide, rfl, rfl, (by decide +kernel), xIn 491 (by decide +kernel) (by decide +kernel)⟩
theorem pf_Or_16 : xPf ROr 16 2 2 (.boolean) := ⟨_, _, cl_Or, by decide, rfl, rfl, (by decide +kernel), xIn 494 (by decide +kernel) (by decide +kernel)⟩
theorem pf_Or_20 : xPd ROr 20 2 3 (.int) := ⟨_, _, _, cl_Or, by decide, rfl, rfl, (by decide +kernel), Or.inl (xIn 497 (by decide +kernel) (by decide +kernel))⟩
theorem gf_Bk_21 : xFd RBk 21 3 2 := ⟨_, _, _, cl_Bk, by decide, rfl, Or.inl (xIn 41 (by decide +kernel) (by decide +kernel))⟩
theorem gf_Bk_11 : xFd RBk 11 3 0 := ⟨_, _, _, cl_Bk, by decide, rfl, Or.inl (xIn 38 (by decide +kernel) (by decide +kernel))⟩
theorem gf_Bk_17 : xFd RBk 17 3 1 := ⟨_, _, _, cl_Bk, by decide, rfl, Or.inl (xIn 39 (by decide +kernel) (by decide +kernel))⟩
theorem k_Bk_25 : xLkV RBk 25 m_Or_goesBefore 1 2 := ⟨⟨Or.inl (xIn 523 (by decide +kernel) (by decide +kernel)), h_Or_goesBefore, (by decide +kernel), ⟨(by decide +kernel), (by decide +kernel)⟩, (by decide +kernel)⟩, xIn 524 (by decide +kernel) (by decide +kernel), xIn 525 (by decide +kernel) (by decide +kernel), _, _, rfl⟩
theorem pf_Bk_21 : xPd RBk 21 3 2 (.int) := ⟨_, _, _, cl_Bk, by decide, rfl, rfl, (by decide +kernel), Or.inl (xIn 41 (by decide +kernel) (by decide +kernel))⟩
theorem gf_Or_13 : xFd ROr 13 2 1 := ⟨_, _, _, cl_Or, by decide, rfl, Or.inl (xIn 491 (by decide +kernel) (by decide +kernel))⟩
theorem gf_Or_7 : xFd ROr 7 2 0 := ⟨_, _, _, cl_Or, by decide, rfl, Or.inl (xIn 488 (by decide +kernel) (by decide +kernel))⟩
theorem k_Lw_27 : xLkV RLw 27 m_Ha_plan 1 9 := ⟨⟨Or.inl (xIn 530 (by decide +kernel) (by decide +kernel)), h_Ha_plan, (by decide +kernel), ⟨(by decide +kernel), (by decide +kernel)⟩, (by decide +kernel)⟩, xIn 531 (by decide +kernel) (by decide +kernel), xIn 532 (by decide +kernel) (by decide +kernel), _, _, rfl⟩
theorem gf_Ha_41 : xFd RHa 41 9 4 := ⟨_, _, _, cl_Ha, by decide, rfl, Or.inl (xIn 259 (by decide +kernel) (by decide +kernel))⟩
theorem k_Ha_133 : xLkV RHa 133 m_St_fill 1 6 := ⟨⟨Or.inl (xIn 534 (by decide +kernel) (by decide +kernel)), h_St_fill, (by decide +kernel), ⟨(by decide +kernel), (by decide +kernel)⟩, (by decide +kernel)⟩, xIn 535 (by decide +kernel) (by decide +kernel), xIn 536 (by decide +kernel) (by decide +kernel), _, _, rfl⟩
theorem k_Ha_137 : xLkV RHa 137 m_Ha_adoptLayout 1 9 := ⟨⟨Or.inl (xIn 570 (by decide +kernel) (by decide +kernel)), h_Ha_adoptLayout, (by decide +kernel), ⟨(by decide +kernel), (by decide +kernel)⟩, (by decide +kernel)⟩, xIn 572 (by decide +kernel) (by decide +kernel), xInS 10 11 (by decide +kernel) rfl, _, _, rfl⟩
theorem gf_St_15 : xFd RSt 15 6 1 := ⟨_, _, _, cl_St, by decide, rfl, Or.inl (xIn 150 (by decide +kernel) (by decide +kernel))⟩
theorem k_St_19 : xLkV RSt 19 m_La_clear 0 1 := ⟨⟨Or.inl (xIn 538 (by decide +kernel) (by decide +kernel)), h_La_clear, (by decide +kernel), ⟨(by decide +kernel), (by decide +kernel)⟩, (by decide +kernel)⟩, xIn 539 (by decide +kernel) (by decide +kernel), xIn 540 (by decide +kernel) (by decide +kernel), _, _, rfl⟩
theorem pf_St_24 : xPd RSt 24 6 4 (.int) := ⟨_, _, _, cl_St, by decide, rfl, rfl, (by decide +kernel), Or.inl (xIn 153 (by decide +kernel) (by decide +kernel))⟩
theorem pf_St_28 : xPd RSt 28 6 2 (.int) := ⟨_, _, _, cl_St, by decide, rfl, rfl, (by decide +kernel), Or.inl (xIn 151 (by decide +kernel) (by decide +kernel))⟩
theorem k_St_31 : xLkV RSt 31 m_St_stackColumn 1 6 := ⟨⟨Or.inl (xIn 542 (by decide +kernel) (by decide +kernel)), h_St_stackColumn, (by decide +kernel), ⟨(by decide +kernel), (by decide +kernel)⟩, (by decide +kernel)⟩, xIn 544 (by decide +kernel) (by decide +kernel), xInS 7 7 (by decide +kernel) rfl, _, _, rfl⟩
theorem gf_St_24 : xFd RSt 24 6 4 := ⟨_, _, _, cl_St, by decide, rfl, Or.inl (xIn 153 (by decide +kernel) (by decide +kernel))⟩
theorem pf_La_27 : xPd RLa 27 1 5 (.int) := ⟨_, _, _, cl_La, by decide, rfl, rfl, (by decide +kernel), Or.inl (xIn 126 (by decide +kernel) (by decide +kernel))⟩
theorem pf_St_35 : xPd RSt 35 6 5 (.int) := ⟨_, _, _, cl_St, by decide, rfl, rfl, (by decide +kernel), Or.inl (xIn 154 (by decide +kernel) (by decide +kernel))⟩
theorem gf_St_38 : xFd RSt 38 0 4 := ⟨_, _, _, cl_Gl, by decide, rfl, Or.inl (xIn 74 (by decide +kernel) (by decide +kernel))⟩
theorem pf_St_43 : xPd RSt 43 6 6 (.int) := ⟨_, _, _, cl_St, by decide, rfl, rfl, (by decide +kernel), Or.inl (xIn 155 (by decide +kernel) (by decide +kernel))⟩
theorem pf_St_46 : xPd RSt 46 6 3 (.int) := ⟨_, _, _, cl_St, by decide, rfl, rfl, (by decide +kernel), Or.inl (xIn 152 (by decide +kernel) (by decide +kernel))⟩
theorem gf_St_49 : xFd RSt 49 1 5 := ⟨_, _, _, cl_La, by decide, rfl, Or.inl (xIn 127 (by decide +kernel) (by decide +kernel))⟩
theorem k_St_52 : xLkV RSt 52 m_St_takeFirst 1 6 := ⟨⟨Or.inl (xIn 546 (by decide +kernel) (by decide +kernel)), h_St_takeFirst, (by decide +kernel), ⟨(by decide +kernel), (by decide +kernel)⟩, (by decide +kernel)⟩, xIn 548 (by decide +kernel) (by decide +kernel), xInS 8 7 (by decide +kernel) rfl, _, _, rfl⟩
theorem gf_St_56 : xFd RSt 56 1 1 := ⟨_, _, _, cl_La, by decide, rfl, Or.inl (xIn 119 (by decide +kernel) (by decide +kernel))⟩
theorem gf_St_35 : xFd RSt 35 6 5 := ⟨_, _, _, cl_St, by decide, rfl, Or.inl (xIn 154 (by decide +kernel) (by decide +kernel))⟩
theorem gf_St_59 : xFd RSt 59 1 2 := ⟨_, _, _, cl_La, by decide, rfl, Or.inl (xIn 122 (by decide +kernel) (by decide +kernel))⟩
theorem gf_St_9 : xFd RSt 9 6 0 := ⟨_, _, _, cl_St, by decide, rfl, Or.inl (xIn 149 (by decide +kernel) (by decide +kernel))⟩
theorem gf_St_62 : xFd RSt 62 3 2 := ⟨_, _, _, cl_Bk, by decide, rfl, Or.inl (xIn 42 (by decide +kernel) (by decide +kernel))⟩
theorem gf_St_65 : xFd RSt 65 3 1 := ⟨_, _, _, cl_Bk, by decide, rfl, Or.inl (xIn 40 (by decide +kernel) (by decide +kernel))⟩
theorem k_St_68 : xLkV RSt 68 m_St_take 3 6 := ⟨⟨Or.inl (xIn 550 (by decide +kernel) (by decide +kernel)), h_St_take, (by decide +kernel), ⟨(by decide +kernel), (by decide +kernel)⟩, (by decide +kernel)⟩, xIn 552 (by decide +kernel) (by decide +kernel), xInS 9 7 (by decide +kernel) rfl, _, _, rfl⟩
theorem k_St_72 : xLkV RSt 72 m_Bk_at 1 3 := ⟨⟨Or.inl (xIn 554 (by decide +kernel) (by decide +kernel)), h_Bk_at, (by decide +kernel), ⟨(by decide +kernel), (by decide +kernel)⟩, (by decide +kernel)⟩, xIn 555 (by decide +kernel) (by decide +kernel), xIn 556 (by decide +kernel) (by decide +kernel), _, _, rfl⟩
theorem gf_St_76 : xFd RSt 76 2 3 := ⟨_, _, _, cl_Or, by decide, rfl, Or.inl (xIn 499 (by decide +kernel) (by decide +kernel))⟩
theorem k_St_81 : xLkV RSt 81 m_La_countOf 1 1 := ⟨⟨Or.inl (xIn 558 (by decide +kernel) (by decide +kernel)), h_La_countOf, (by decide +kernel), ⟨(by decide +kernel), (by decide +kernel)⟩, (by decide +kernel)⟩, xIn 559 (by decide +kernel) (by decide +kernel), xIn 560 (by decide +kernel) (by decide +kernel), _, _, rfl⟩
theorem gf_St_85 : xFd RSt 85 2 2 := ⟨_, _, _, cl_Or, by decide, rfl, Or.inl (xIn 495 (by decide +kernel) (by decide +kernel))⟩
theorem gf_St_89 : xFd RSt 89 2 1 := ⟨_, _, _, cl_Or, by decide, rfl, Or.inl (xIn 492 (by decide +kernel) (by decide +kernel))⟩
theorem gf_St_91 : xFd RSt 91 2 0 := ⟨_, _, _, cl_Or, by decide, rfl, Or.inl (xIn 489 (by decide +kernel) (by decide +kernel))⟩
theorem gf_St_43 : xFd RSt 43 6 6 := ⟨_, _, _, cl_St, by decide, rfl, Or.inl (xIn 155 (by decide +kernel) (by decide +kernel))⟩
theorem gf_St_92 : xFd RSt 92 0 5 := ⟨_, _, _, cl_Gl, by decide, rfl, Or.inl (xIn 81 (by decide +kernel) (by decide +kernel))⟩
theorem k_St_93 : xLkV RSt 93 m_Gl_isClear 4 0 := ⟨⟨Or.inl (xIn 562 (by decide +kernel) (by decide +kernel)), h_Gl_isClear, (by decide +kernel), ⟨(by decide +kernel), (by decide +kernel)⟩, (by decide +kernel)⟩, xIn 563 (by decide +kernel) (by decide +kernel), xIn 564 (by decide +kernel) (by decide +kernel), _, _, rfl⟩
theorem gf_St_28 : xFd RSt 28 6 2 := ⟨_, _, _, cl_St, by decide, rfl, Or.inl (xIn 151 (by decide +kernel) (by decide +kernel))⟩
theorem gf_St_46 : xFd RSt 46 6 3 := ⟨_, _, _, cl_St, by decide, rfl, Or.inl (xIn 152 (by decide +kernel) (by decide +kernel))⟩
theorem k_St_97 : xLkV RSt 97 m_La_put 5 1 := ⟨⟨Or.inl (xIn 566 (by decide +kernel) (by decide +kernel)), h_La_put, (by decide +kernel), ⟨(by decide +kernel), (by decide +kernel)⟩, (by decide +kernel)⟩, xIn 567 (by decide +kernel) (by decide +kernel), xIn 568 (by decide +kernel) (by decide +kernel), _, _, rfl⟩
theorem gf_La_27 : xFd RLa 27 1 5 := ⟨_, _, _, cl_La, by decide, rfl, Or.inl (xIn 126 (by decide +kernel) (by decide +kernel))⟩
theorem gf_La_9 : xFd RLa 9 1 0 := ⟨_, _, _, cl_La, by decide, rfl, Or.inl (xIn 115 (by decide +kernel) (by decide +kernel))⟩
theorem gf_La_15 : xFd RLa 15 1 1 := ⟨_, _, _, cl_La, by decide, rfl, Or.inl (xIn 118 (by decide +kernel) (by decide +kernel))⟩
theorem gf_La_18 : xFd RLa 18 1 2 := ⟨_, _, _, cl_La, by decide, rfl, Or.inl (xIn 121 (by decide +kernel) (by decide +kernel))⟩
theorem gf_La_21 : xFd RLa 21 1 3 := ⟨_, _, _, cl_La, by decide, rfl, Or.inl (xIn 124 (by decide +kernel) (by decide +kernel))⟩
theorem gf_La_24 : xFd RLa 24 1 4 := ⟨_, _, _, cl_La, by decide, rfl, Or.inl (xIn 125 (by decide +kernel) (by decide +kernel))⟩
theorem gf_Ha_279 : xFd RHa 279 1 5 := ⟨_, _, _, cl_La, by decide, rfl, Or.inl (xIn 129 (by decide +kernel) (by decide +kernel))⟩
theorem k_Ha_280 : xLkV RHa 280 m_Tr_grow 3 7 := ⟨⟨Or.inl (xIn 574 (by decide +kernel) (by decide +kernel)), h_Tr_grow, (by decide +kernel), ⟨(by decide +kernel), (by decide +kernel)⟩, (by decide +kernel)⟩, xIn 575 (by decide +kernel) (by decide +kernel), xIn 576 (by decide +kernel) (by decide +kernel), _, _, rfl⟩
theorem gf_Ha_284 : xFd RHa 284 1 0 := ⟨_, _, _, cl_La, by decide, rfl, Or.inl (xIn 117 (by decide +kernel) (by decide +kernel))⟩
theorem k_Ha_287 : xLkV RHa 287 m_Bk_takeUp 1 3 := ⟨⟨Or.inl (xIn 635 (by decide +kernel) (by decide +kernel)), h_Bk_takeUp, (by decide +kernel), ⟨(by decide +kernel), (by decide +kernel)⟩, (by decide +kernel)⟩, xIn 636 (by decide +kernel) (by decide +kernel), xIn 637 (by decide +kernel) (by decide +kernel), _, _, rfl⟩
theorem k_Tr_40 : xLkV RTr 40 m_Tr_clear 0 7 := ⟨⟨Or.inl (xIn 578 (by decide +kernel) (by decide +kernel)), h_Tr_clear, (by decide +kernel), ⟨(by decide +kernel), (by decide +kernel)⟩, (by decide +kernel)⟩, xIn 579 (by decide +kernel) (by decide +kernel), xIn 580 (by decide +kernel) (by decide +kernel), _, _, rfl⟩
theorem k_Tr_43 : xLkV RTr 43 m_La_columns 0 1 := ⟨⟨Or.inl (xIn 582 (by decide +kernel) (by decide +kernel)), h_La_columns, (by decide +kernel), ⟨(by decide +kernel), (by decide +kernel)⟩, (by decide +kernel)⟩, xIn 583 (by decide +kernel) (by decide +kernel), xIn 584 (by decide +kernel) (by decide +kernel), _, _, rfl⟩
theorem k_Tr_49 : xLkV RTr 49 m_La_columnWidth 1 1 := ⟨⟨Or.inl (xIn 589 (by decide +kernel) (by decide +kernel)), h_La_columnWidth, (by decide +kernel), ⟨(by decide +kernel), (by decide +kernel)⟩, (by decide +kernel)⟩, xIn 590 (by decide +kernel) (by decide +kernel), xIn 591 (by decide +kernel) (by decide +kernel), _, _, rfl⟩
theorem k_Tr_53 : xLkV RTr 53 m_Tr_add 6 7 := ⟨⟨Or.inl (xIn 605 (by decide +kernel) (by decide +kernel)), h_Tr_add, (by decide +kernel), ⟨(by decide +kernel), (by decide +kernel)⟩, (by decide +kernel)⟩, xIn 607 (by decide +kernel) (by decide +kernel), xInS 11 9 (by decide +kernel) rfl, _, _, rfl⟩
theorem k_Tr_57 : xLkV RTr 57 m_Tr_growColumn 5 7 := ⟨⟨Or.inl (xIn 609 (by decide +kernel) (by decide +kernel)), h_Tr_growColumn, (by decide +kernel), ⟨(by decide +kernel), (by decide +kernel)⟩, (by decide +kernel)⟩, xIn 611 (by decide +kernel) (by decide +kernel), xInS 12 9 (by decide +kernel) rfl, _, _, rfl⟩
theorem k_Tr_61 : xLkV RTr 61 m_Tr_beginSecond 1 7 := ⟨⟨Or.inl (xIn 627 (by decide +kernel) (by decide +kernel)), h_Tr_beginSecond, (by decide +kernel), ⟨(by decide +kernel), (by decide +kernel)⟩, (by decide +kernel)⟩, xIn 629 (by decide +kernel) (by decide +kernel), xInS 15 9 (by decide +kernel) rfl, _, _, rfl⟩
theorem k_Tr_65 : xLkV RTr 65 m_Tr_addRest 4 7 := ⟨⟨Or.inl (xIn 631 (by decide +kernel) (by decide +kernel)), h_Tr_addRest, (by decide +kernel), ⟨(by decide +kernel), (by decide +kernel)⟩, (by decide +kernel)⟩, xIn 633 (by decide +kernel) (by decide +kernel), xInS 16 9 (by decide +kernel) rfl, _, _, rfl⟩
theorem pf_Tr_36 : xPd RTr 36 7 8 (.int) := ⟨_, _, _, cl_Tr, by decide, rfl, rfl, (by decide +kernel), Or.inl (xIn 219 (by decide +kernel) (by decide +kernel))⟩
theorem k_La_31 : .methodLink RLa 31 Lib.Math.max.name ∈ xWS := xIn 586 (by decide +kernel) (by decide +kernel)
theorem k_La_41 : xLkV RLa 41 m_La_rowsIn 1 1 := ⟨⟨Or.inl (xIn 593 (by decide +kernel) (by decide +kernel)), h_La_rowsIn, (by decide +kernel), ⟨(by decide +kernel), (by decide +kernel)⟩, (by decide +kernel)⟩, xIn 594 (by decide +kernel) (by decide +kernel), xIn 595 (by decide +kernel) (by decide +kernel), _, _, rfl⟩
theorem k_La_45 : xLkV RLa 45 m_La_rowWidth 2 1 := ⟨⟨Or.inl (xIn 597 (by decide +kernel) (by decide +kernel)), h_La_rowWidth, (by decide +kernel), ⟨(by decide +kernel), (by decide +kernel)⟩, (by decide +kernel)⟩, xIn 598 (by decide +kernel) (by decide +kernel), xIn 599 (by decide +kernel) (by decide +kernel), _, _, rfl⟩
theorem k_La_37 : xLkV RLa 37 m_La_isIn 3 1 := ⟨⟨Or.inl (xIn 601 (by decide +kernel) (by decide +kernel)), h_La_isIn, (by decide +kernel), ⟨(by decide +kernel), (by decide +kernel)⟩, (by decide +kernel)⟩, xIn 602 (by decide +kernel) (by decide +kernel), xIn 603 (by decide +kernel) (by decide +kernel), _, _, rfl⟩
theorem gf_Tr_9 : xFd RTr 9 7 0 := ⟨_, _, _, cl_Tr, by decide, rfl, Or.inl (xIn 203 (by decide +kernel) (by decide +kernel))⟩
theorem gf_Tr_15 : xFd RTr 15 7 1 := ⟨_, _, _, cl_Tr, by decide, rfl, Or.inl (xIn 205 (by decide +kernel) (by decide +kernel))⟩
theorem gf_Tr_18 : xFd RTr 18 7 2 := ⟨_, _, _, cl_Tr, by decide, rfl, Or.inl (xIn 207 (by decide +kernel) (by decide +kernel))⟩
theorem gf_Tr_27 : xFd RTr 27 7 5 := ⟨_, _, _, cl_Tr, by decide, rfl, Or.inl (xIn 213 (by decide +kernel) (by decide +kernel))⟩
theorem gf_Tr_30 : xFd RTr 30 7 6 := ⟨_, _, _, cl_Tr, by decide, rfl, Or.inl (xIn 215 (by decide +kernel) (by decide +kernel))⟩
theorem k_Tr_69 : xLkV RTr 69 m_La_rowsIn 1 1 := ⟨⟨Or.inl (xIn 613 (by decide +kernel) (by decide +kernel)), h_La_rowsIn, (by decide +kernel), ⟨(by decide +kernel), (by decide +kernel)⟩, (by decide +kernel)⟩, xIn 594 (by decide +kernel) (by decide +kernel), xIn 595 (by decide +kernel) (by decide +kernel), _, _, rfl⟩
theorem k_Tr_72 : xLkV RTr 72 m_La_rowHeight 2 1 := ⟨⟨Or.inl (xIn 614 (by decide +kernel) (by decide +kernel)), h_La_rowHeight, (by decide +kernel), ⟨(by decide +kernel), (by decide +kernel)⟩, (by decide +kernel)⟩, xIn 615 (by decide +kernel) (by decide +kernel), xIn 616 (by decide +kernel) (by decide +kernel), _, _, rfl⟩
theorem k_Tr_76 : xLkV RTr 76 m_Tr_growRow 7 7 := ⟨⟨Or.inl (xIn 618 (by decide +kernel) (by decide +kernel)), h_Tr_growRow, (by decide +kernel), ⟨(by decide +kernel), (by decide +kernel)⟩, (by decide +kernel)⟩, xIn 620 (by decide +kernel) (by decide +kernel), xInS 13 9 (by decide +kernel) rfl, _, _, rfl⟩
theorem gf_Tr_80 : xFd RTr 80 1 5 := ⟨_, _, _, cl_La, by decide, rfl, Or.inl (xIn 128 (by decide +kernel) (by decide +kernel))⟩
theorem k_Tr_81 : xLkV RTr 81 m_La_isIn 3 1 := ⟨⟨Or.inl (xIn 622 (by decide +kernel) (by decide +kernel)), h_La_isIn, (by decide +kernel), ⟨(by decide +kernel), (by decide +kernel)⟩, (by decide +kernel)⟩, xIn 602 (by decide +kernel) (by decide +kernel), xIn 603 (by decide +kernel) (by decide +kernel), _, _, rfl⟩
theorem gf_Tr_85 : xFd RTr 85 1 1 := ⟨_, _, _, cl_La, by decide, rfl, Or.inl (xIn 120 (by decide +kernel) (by decide +kernel))⟩
theorem k_Tr_86 : xLkV RTr 86 m_Tr_growCell 5 7 := ⟨⟨Or.inl (xIn 623 (by decide +kernel) (by decide +kernel)), h_Tr_growCell, (by decide +kernel), ⟨(by decide +kernel), (by decide +kernel)⟩, (by decide +kernel)⟩, xIn 625 (by decide +kernel) (by decide +kernel), xInS 14 9 (by decide +kernel) rfl, _, _, rfl⟩
theorem gf_Tr_89 : xFd RTr 89 1 2 := ⟨_, _, _, cl_La, by decide, rfl, Or.inl (xIn 123 (by decide +kernel) (by decide +kernel))⟩
theorem gf_Tr_90 : xFd RTr 90 1 0 := ⟨_, _, _, cl_La, by decide, rfl, Or.inl (xIn 116 (by decide +kernel) (by decide +kernel))⟩
theorem k_Bk_29 : xLkV RBk 29 m_Bk_at 1 3 := ⟨⟨Or.inl (xIn 639 (by decide +kernel) (by decide +kernel)), h_Bk_at, (by decide +kernel), ⟨(by decide +kernel), (by decide +kernel)⟩, (by decide +kernel)⟩, xIn 555 (by decide +kernel) (by decide +kernel), xIn 556 (by decide +kernel) (by decide +kernel), _, _, rfl⟩
theorem gf_Bk_33 : xFd RBk 33 2 3 := ⟨_, _, _, cl_Or, by decide, rfl, Or.inl (xIn 498 (by decide +kernel) (by decide +kernel))⟩
theorem pf_Bk_33 : xPd RBk 33 2 3 (.int) := ⟨_, _, _, cl_Or, by decide, rfl, rfl, (by decide +kernel), Or.inl (xIn 498 (by decide +kernel) (by decide +kernel))⟩
theorem gf_Bk_36 : xFd RBk 36 2 4 := ⟨_, _, _, cl_Or, by decide, rfl, Or.inl (xIn 502 (by decide +kernel) (by decide +kernel))⟩
theorem pf_Bk_36 : xPd RBk 36 2 4 (.int) := ⟨_, _, _, cl_Or, by decide, rfl, rfl, (by decide +kernel), Or.inl (xIn 502 (by decide +kernel) (by decide +kernel))⟩
theorem k_Lw_31 : xLkV RLw 31 m_Ha_exact 4 9 := ⟨⟨Or.inl (xIn 643 (by decide +kernel) (by decide +kernel)), h_Ha_exact, (by decide +kernel), ⟨(by decide +kernel), (by decide +kernel)⟩, (by decide +kernel)⟩, xIn 644 (by decide +kernel) (by decide +kernel), xIn 645 (by decide +kernel) (by decide +kernel), _, _, rfl⟩
theorem gf_Ha_48 : xFd RHa 48 9 5 := ⟨_, _, _, cl_Ha, by decide, rfl, Or.inl (xIn 260 (by decide +kernel) (by decide +kernel))⟩
theorem k_Ha_140 : xLkV RHa 140 m_Ti_callNames 3 8 := ⟨⟨Or.inl (xIn 647 (by decide +kernel) (by decide +kernel)), h_Ti_callNames, (by decide +kernel), ⟨(by decide +kernel), (by decide +kernel)⟩, (by decide +kernel)⟩, xIn 648 (by decide +kernel) (by decide +kernel), xIn 649 (by decide +kernel) (by decide +kernel), _, _, rfl⟩
theorem k_Ha_144 : xLkV RHa 144 m_Ti_namesAreThere 0 8 := ⟨⟨Or.inl (xIn 655 (by decide +kernel) (by decide +kernel)), h_Ti_namesAreThere, (by decide +kernel), ⟨(by decide +kernel), (by decide +kernel)⟩, (by decide +kernel)⟩, xIn 656 (by decide +kernel) (by decide +kernel), xIn 657 (by decide +kernel) (by decide +kernel), _, _, rfl⟩
theorem k_Ha_150 : xLkV RHa 150 m_Ti_namesAreOpen 0 8 := ⟨⟨Or.inl (xIn 660 (by decide +kernel) (by decide +kernel)), h_Ti_namesAreOpen, (by decide +kernel), ⟨(by decide +kernel), (by decide +kernel)⟩, (by decide +kernel)⟩, xIn 661 (by decide +kernel) (by decide +kernel), xIn 662 (by decide +kernel) (by decide +kernel), _, _, rfl⟩
theorem k_Ha_153 : xLkV RHa 153 m_Ti_fill 1 8 := ⟨⟨Or.inl (xIn 668 (by decide +kernel) (by decide +kernel)), h_Ti_fill, (by decide +kernel), ⟨(by decide +kernel), (by decide +kernel)⟩, (by decide +kernel)⟩, xIn 669 (by decide +kernel) (by decide +kernel), xIn 670 (by decide +kernel) (by decide +kernel), _, _, rfl⟩
theorem gf_Ti_9 : xFd RTi 9 8 2 := ⟨_, _, _, cl_Ti, by decide, rfl, Or.inl (xIn 179 (by decide +kernel) (by decide +kernel))⟩
theorem pf_Ti_23 : xPd RTi 23 8 3 (.int) := ⟨_, _, _, cl_Ti, by decide, rfl, rfl, (by decide +kernel), Or.inl (xIn 180 (by decide +kernel) (by decide +kernel))⟩
theorem k_Ti_27 : xLkV RTi 27 m_Ti_addName 1 8 := ⟨⟨Or.inl (xIn 651 (by decide +kernel) (by decide +kernel)), h_Ti_addName, (by decide +kernel), ⟨(by decide +kernel), (by decide +kernel)⟩, (by decide +kernel)⟩, xIn 653 (by decide +kernel) (by decide +kernel), xInS 17 4 (by decide +kernel) rfl, _, _, rfl⟩
theorem gf_Ti_23 : xFd RTi 23 8 3 := ⟨_, _, _, cl_Ti, by decide, rfl, Or.inl (xIn 180 (by decide +kernel) (by decide +kernel))⟩
theorem gf_Ti_15 : xFd RTi 15 8 0 := ⟨_, _, _, cl_Ti, by decide, rfl, Or.inl (xIn 177 (by decide +kernel) (by decide +kernel))⟩
theorem k_Ti_31 : xLkV RTi 31 m_Bk_at 1 3 := ⟨⟨Or.inl (xIn 659 (by decide +kernel) (by decide +kernel)), h_Bk_at, (by decide +kernel), ⟨(by decide +kernel), (by decide +kernel)⟩, (by decide +kernel)⟩, xIn 555 (by decide +kernel) (by decide +kernel), xIn 556 (by decide +kernel) (by decide +kernel), _, _, rfl⟩
theorem gf_Ti_37 : xFd RTi 37 2 3 := ⟨_, _, _, cl_Or, by decide, rfl, Or.inl (xIn 500 (by decide +kernel) (by decide +kernel))⟩
theorem k_Ti_42 : xLkV RTi 42 m_Ti_timesNamed 1 8 := ⟨⟨Or.inl (xIn 664 (by decide +kernel) (by decide +kernel)), h_Ti_timesNamed, (by decide +kernel), ⟨(by decide +kernel), (by decide +kernel)⟩, (by decide +kernel)⟩, xIn 666 (by decide +kernel) (by decide +kernel), xInS 18 4 (by decide +kernel) rfl, _, _, rfl⟩
theorem gf_Ti_19 : xFd RTi 19 8 1 := ⟨_, _, _, cl_Ti, by decide, rfl, Or.inl (xIn 178 (by decide +kernel) (by decide +kernel))⟩
theorem k_Ti_46 : xLkV RTi 46 m_La_clear 0 1 := ⟨⟨Or.inl (xIn 672 (by decide +kernel) (by decide +kernel)), h_La_clear, (by decide +kernel), ⟨(by decide +kernel), (by decide +kernel)⟩, (by decide +kernel)⟩, xIn 539 (by decide +kernel) (by decide +kernel), xIn 540 (by decide +kernel) (by decide +kernel), _, _, rfl⟩
theorem k_Ti_51 : xLkV RTi 51 m_Ti_placeFrom 2 8 := ⟨⟨Or.inl (xIn 673 (by decide +kernel) (by decide +kernel)), h_Ti_placeFrom, (by decide +kernel), ⟨(by decide +kernel), (by decide +kernel)⟩, (by decide +kernel)⟩, xIn 675 (by decide +kernel) (by decide +kernel), xInS 19 4 (by decide +kernel) rfl, _, _, rfl⟩
theorem k_Ti_55 : xLkV RTi 55 m_La_columns 0 1 := ⟨⟨Or.inl (xIn 677 (by decide +kernel) (by decide +kernel)), h_La_columns, (by decide +kernel), ⟨(by decide +kernel), (by decide +kernel)⟩, (by decide +kernel)⟩, xIn 583 (by decide +kernel) (by decide +kernel), xIn 584 (by decide +kernel) (by decide +kernel), _, _, rfl⟩
theorem k_Ti_59 : xLkV RTi 59 m_La_rowsIn 1 1 := ⟨⟨Or.inl (xIn 678 (by decide +kernel) (by decide +kernel)), h_La_rowsIn, (by decide +kernel), ⟨(by decide +kernel), (by decide +kernel)⟩, (by decide +kernel)⟩, xIn 594 (by decide +kernel) (by decide +kernel), xIn 595 (by decide +kernel) (by decide +kernel), _, _, rfl⟩
theorem k_Ti_62 : xLkV RTi 62 m_Ti_placeAt 5 8 := ⟨⟨Or.inl (xIn 679 (by decide +kernel) (by decide +kernel)), h_Ti_placeAt, (by decide +kernel), ⟨(by decide +kernel), (by decide +kernel)⟩, (by decide +kernel)⟩, xIn 681 (by decide +kernel) (by decide +kernel), xInS 20 4 (by decide +kernel) rfl, _, _, rfl⟩
theorem gf_Ti_66 : xFd RTi 66 2 2 := ⟨_, _, _, cl_Or, by decide, rfl, Or.inl (xIn 496 (by decide +kernel) (by decide +kernel))⟩
theorem gf_Ti_70 : xFd RTi 70 2 1 := ⟨_, _, _, cl_Or, by decide, rfl, Or.inl (xIn 493 (by decide +kernel) (by decide +kernel))⟩
theorem gf_Ti_73 : xFd RTi 73 2 0 := ⟨_, _, _, cl_Or, by decide, rfl, Or.inl (xIn 490 (by decide +kernel) (by decide +kernel))⟩
theorem k_Ti_76 : xLkV RTi 76 m_La_put 5 1 := ⟨⟨Or.inl (xIn 683 (by decide +kernel) (by decide +kernel)), h_La_put, (by decide +kernel), ⟨(by decide +kernel), (by decide +kernel)⟩, (by decide +kernel)⟩, xIn 567 (by decide +kernel) (by decide +kernel), xIn 568 (by decide +kernel) (by decide +kernel), _, _, rfl⟩
theorem k_Ti_80 : xLkV RTi 80 m_La_fitsOn 1 1 := ⟨⟨Or.inl (xIn 684 (by decide +kernel) (by decide +kernel)), h_La_fitsOn, (by decide +kernel), ⟨(by decide +kernel), (by decide +kernel)⟩, (by decide +kernel)⟩, xIn 685 (by decide +kernel) (by decide +kernel), xIn 686 (by decide +kernel) (by decide +kernel), _, _, rfl⟩
theorem k_Ti_84 : xLkV RTi 84 m_La_dropLast 0 1 := ⟨⟨Or.inl (xIn 695 (by decide +kernel) (by decide +kernel)), h_La_dropLast, (by decide +kernel), ⟨(by decide +kernel), (by decide +kernel)⟩, (by decide +kernel)⟩, xIn 696 (by decide +kernel) (by decide +kernel), xIn 697 (by decide +kernel) (by decide +kernel), _, _, rfl⟩
theorem k_La_51 : xLkV RLa 51 m_La_columns 0 1 := ⟨⟨Or.inl (xIn 688 (by decide +kernel) (by decide +kernel)), h_La_columns, (by decide +kernel), ⟨(by decide +kernel), (by decide +kernel)⟩, (by decide +kernel)⟩, xIn 583 (by decide +kernel) (by decide +kernel), xIn 584 (by decide +kernel) (by decide +kernel), _, _, rfl⟩
theorem k_La_55 : xLkV RLa 55 m_La_columnHeight 1 1 := ⟨⟨Or.inl (xIn 689 (by decide +kernel) (by decide +kernel)), h_La_columnHeight, (by decide +kernel), ⟨(by decide +kernel), (by decide +kernel)⟩, (by decide +kernel)⟩, xIn 690 (by decide +kernel) (by decide +kernel), xIn 691 (by decide +kernel) (by decide +kernel), _, _, rfl⟩
theorem gf_La_58 : xFd RLa 58 0 5 := ⟨_, _, _, cl_Gl, by decide, rfl, Or.inl (xIn 82 (by decide +kernel) (by decide +kernel))⟩
theorem k_La_62 : xLkV RLa 62 m_La_columnWidth 1 1 := ⟨⟨Or.inl (xIn 694 (by decide +kernel) (by decide +kernel)), h_La_columnWidth, (by decide +kernel), ⟨(by decide +kernel), (by decide +kernel)⟩, (by decide +kernel)⟩, xIn 590 (by decide +kernel) (by decide +kernel), xIn 591 (by decide +kernel) (by decide +kernel), _, _, rfl⟩
theorem gf_La_65 : xFd RLa 65 0 4 := ⟨_, _, _, cl_Gl, by decide, rfl, Or.inl (xIn 77 (by decide +kernel) (by decide +kernel))⟩
theorem k_La_48 : xLkV RLa 48 m_La_rowHeight 2 1 := ⟨⟨Or.inl (xIn 693 (by decide +kernel) (by decide +kernel)), h_La_rowHeight, (by decide +kernel), ⟨(by decide +kernel), (by decide +kernel)⟩, (by decide +kernel)⟩, xIn 615 (by decide +kernel) (by decide +kernel), xIn 616 (by decide +kernel) (by decide +kernel), _, _, rfl⟩
theorem k_Lw_35 : xLkV RLw 35 m_Ha_node 3 9 := ⟨⟨Or.inl (xIn 703 (by decide +kernel) (by decide +kernel)), h_Ha_node, (by decide +kernel), ⟨(by decide +kernel), (by decide +kernel)⟩, (by decide +kernel)⟩, xIn 704 (by decide +kernel) (by decide +kernel), xIn 705 (by decide +kernel) (by decide +kernel), _, _, rfl⟩
theorem k_Ha_154 : xLkV RHa 154 m_Ha_findPlanned 1 9 := ⟨⟨Or.inl (xIn 707 (by decide +kernel) (by decide +kernel)), h_Ha_findPlanned, (by decide +kernel), ⟨(by decide +kernel), (by decide +kernel)⟩, (by decide +kernel)⟩, xIn 709 (by decide +kernel) (by decide +kernel), xInS 21 11 (by decide +kernel) rfl, _, _, rfl⟩
theorem k_Ha_157 : xLkV RHa 157 m_Tr_has 1 7 := ⟨⟨Or.inl (xIn 711 (by decide +kernel) (by decide +kernel)), h_Tr_has, (by decide +kernel), ⟨(by decide +kernel), (by decide +kernel)⟩, (by decide +kernel)⟩, xIn 712 (by decide +kernel) (by decide +kernel), xIn 713 (by decide +kernel) (by decide +kernel), _, _, rfl⟩
theorem nw_Ha_160 : .classLink RHa 160 RIoo ∈ xWS := xIn 715 (by decide +kernel) (by decide +kernel)
theorem k_Ha_162 : .methodLink RHa 162 (Bundle.init0 RIoo) ∈ xWS := xIn 724 (by decide +kernel) (by decide +kernel)
theorem k_Ha_163 : xLkV RHa 163 m_Tr_tell 2 7 := ⟨⟨Or.inl (xIn 730 (by decide +kernel) (by decide +kernel)), h_Tr_tell, (by decide +kernel), ⟨(by decide +kernel), (by decide +kernel)⟩, (by decide +kernel)⟩, xIn 731 (by decide +kernel) (by decide +kernel), xIn 732 (by decide +kernel) (by decide +kernel), _, _, rfl⟩
theorem k_Tr_97 : xLkV RTr 97 m_Tr_isCut 1 7 := ⟨⟨Or.inl (xIn 734 (by decide +kernel) (by decide +kernel)), h_Tr_isCut, (by decide +kernel), ⟨(by decide +kernel), (by decide +kernel)⟩, (by decide +kernel)⟩, xIn 735 (by decide +kernel) (by decide +kernel), xIn 736 (by decide +kernel) (by decide +kernel), _, _, rfl⟩
theorem k_Lw_41 : xLkV RLw 41 m_Ha_nodes 1 9 := ⟨⟨Or.inl (xIn 741 (by decide +kernel) (by decide +kernel)), h_Ha_nodes, (by decide +kernel), ⟨(by decide +kernel), (by decide +kernel)⟩, (by decide +kernel)⟩, xIn 742 (by decide +kernel) (by decide +kernel), xIn 743 (by decide +kernel) (by decide +kernel), _, _, rfl⟩
theorem gf_Ha_167 : xFd RHa 167 7 8 := ⟨_, _, _, cl_Tr, by decide, rfl, Or.inl (xIn 220 (by decide +kernel) (by decide +kernel))⟩
theorem k_Lw_44 : xLkV RLw 44 m_Ha_score 1 9 := ⟨⟨Or.inl (xIn 748 (by decide +kernel) (by decide +kernel)), h_Ha_score, (by decide +kernel), ⟨(by decide +kernel), (by decide +kernel)⟩, (by decide +kernel)⟩, xIn 749 (by decide +kernel) (by decide +kernel), xIn 750 (by decide +kernel) (by decide +kernel), _, _, rfl⟩
theorem k_Ha_168 : xLkV RHa 168 m_Tr_firstWaiting 0 7 := ⟨⟨Or.inl (xIn 752 (by decide +kernel) (by decide +kernel)), h_Tr_firstWaiting, (by decide +kernel), ⟨(by decide +kernel), (by decide +kernel)⟩, (by decide +kernel)⟩, xIn 753 (by decide +kernel) (by decide +kernel), xIn 754 (by decide +kernel) (by decide +kernel), _, _, rfl⟩
theorem k_Ha_172 : xLkV RHa 172 m_Tr_isCut 1 7 := ⟨⟨Or.inl (xIn 756 (by decide +kernel) (by decide +kernel)), h_Tr_isCut, (by decide +kernel), ⟨(by decide +kernel), (by decide +kernel)⟩, (by decide +kernel)⟩, xIn 735 (by decide +kernel) (by decide +kernel), xIn 736 (by decide +kernel) (by decide +kernel), _, _, rfl⟩
theorem gf_Ha_175 : xFd RHa 175 7 7 := ⟨_, _, _, cl_Tr, by decide, rfl, Or.inl (xIn 218 (by decide +kernel) (by decide +kernel))⟩
theorem k_Ha_179 : xLkV RHa 179 m_Ha_letWait 2 9 := ⟨⟨Or.inl (xIn 757 (by decide +kernel) (by decide +kernel)), h_Ha_letWait, (by decide +kernel), ⟨(by decide +kernel), (by decide +kernel)⟩, (by decide +kernel)⟩, xIn 759 (by decide +kernel) (by decide +kernel), xInS 22 11 (by decide +kernel) rfl, _, _, rfl⟩
theorem gf_Ha_183 : xFd RHa 183 7 6 := ⟨_, _, _, cl_Tr, by decide, rfl, Or.inl (xIn 216 (by decide +kernel) (by decide +kernel))⟩
theorem k_Ha_186 : xLkV RHa 186 m_Ha_clearAwayIfEmpty 1 9 := ⟨⟨Or.inl (xIn 784 (by decide +kernel) (by decide +kernel)), h_Ha_clearAwayIfEmpty, (by decide +kernel), ⟨(by decide +kernel), (by decide +kernel)⟩, (by decide +kernel)⟩, xIn 786 (by decide +kernel) (by decide +kernel), xInS 24 11 (by decide +kernel) rfl, _, _, rfl⟩
theorem gf_Ha_290 : xFd RHa 290 7 0 := ⟨_, _, _, cl_Tr, by decide, rfl, Or.inl (xIn 204 (by decide +kernel) (by decide +kernel))⟩
theorem gf_Ha_293 : xFd RHa 293 7 5 := ⟨_, _, _, cl_Tr, by decide, rfl, Or.inl (xIn 214 (by decide +kernel) (by decide +kernel))⟩
theorem k_Ha_296 : xLkV RHa 296 m_Bk_finish 1 3 := ⟨⟨Or.inl (xIn 761 (by decide +kernel) (by decide +kernel)), h_Bk_finish, (by decide +kernel), ⟨(by decide +kernel), (by decide +kernel)⟩, (by decide +kernel)⟩, xIn 762 (by decide +kernel) (by decide +kernel), xIn 763 (by decide +kernel) (by decide +kernel), _, _, rfl⟩
theorem k_Ha_193 : xLkV RHa 193 m_Tr_surface 1 7 := ⟨⟨Or.inl (xIn 765 (by decide +kernel) (by decide +kernel)), h_Tr_surface, (by decide +kernel), ⟨(by decide +kernel), (by decide +kernel)⟩, (by decide +kernel)⟩, xIn 327 (by decide +kernel) (by decide +kernel), xIn 328 (by decide +kernel) (by decide +kernel), _, _, rfl⟩
theorem pf_Ha_249 : xPd RHa 249 9 8 (.long) := ⟨_, _, _, cl_Ha, by decide, rfl, rfl, (by decide +kernel), Or.inl (xIn 263 (by decide +kernel) (by decide +kernel))⟩
theorem k_Ha_299 : xLkV RHa 299 m_Ha_putAway 2 9 := ⟨⟨Or.inl (xIn 766 (by decide +kernel) (by decide +kernel)), h_Ha_putAway, (by decide +kernel), ⟨(by decide +kernel), (by decide +kernel)⟩, (by decide +kernel)⟩, xIn 768 (by decide +kernel) (by decide +kernel), xInS 23 11 (by decide +kernel) rfl, _, _, rfl⟩
theorem gf_Bk_39 : xFd RBk 39 2 5 := ⟨_, _, _, cl_Or, by decide, rfl, Or.inl (xIn 504 (by decide +kernel) (by decide +kernel))⟩
theorem pf_Bk_39 : xPd RBk 39 2 5 (.int) := ⟨_, _, _, cl_Or, by decide, rfl, rfl, (by decide +kernel), Or.inl (xIn 504 (by decide +kernel) (by decide +kernel))⟩
theorem gf_Ha_302 : xFd RHa 302 7 3 := ⟨_, _, _, cl_Tr, by decide, rfl, Or.inl (xIn 210 (by decide +kernel) (by decide +kernel))⟩
theorem gf_Ha_304 : xFd RHa 304 7 4 := ⟨_, _, _, cl_Tr, by decide, rfl, Or.inl (xIn 212 (by decide +kernel) (by decide +kernel))⟩
theorem gf_Ha_306 : xFd RHa 306 7 1 := ⟨_, _, _, cl_Tr, by decide, rfl, Or.inl (xIn 206 (by decide +kernel) (by decide +kernel))⟩
theorem gf_Ha_309 : xFd RHa 309 7 2 := ⟨_, _, _, cl_Tr, by decide, rfl, Or.inl (xIn 208 (by decide +kernel) (by decide +kernel))⟩
theorem k_Ha_312 : xLkV RHa 312 m_Rk_addPart 5 4 := ⟨⟨Or.inl (xIn 770 (by decide +kernel) (by decide +kernel)), h_Rk_addPart, (by decide +kernel), ⟨(by decide +kernel), (by decide +kernel)⟩, (by decide +kernel)⟩, xIn 771 (by decide +kernel) (by decide +kernel), xIn 772 (by decide +kernel) (by decide +kernel), _, _, rfl⟩
theorem pf_Ha_253 : xPd RHa 253 9 9 (.long) := ⟨_, _, _, cl_Ha, by decide, rfl, rfl, (by decide +kernel), Or.inl (xIn 264 (by decide +kernel) (by decide +kernel))⟩
theorem k_Rk_22 : xLkV RRk 22 m_Gl_becomePart 5 0 := ⟨⟨Or.inl (xIn 774 (by decide +kernel) (by decide +kernel)), h_Gl_becomePart, (by decide +kernel), ⟨(by decide +kernel), (by decide +kernel)⟩, (by decide +kernel)⟩, xIn 775 (by decide +kernel) (by decide +kernel), xIn 776 (by decide +kernel) (by decide +kernel), _, _, rfl⟩
theorem pf_Rk_18 : xPd RRk 18 4 1 (.int) := ⟨_, _, _, cl_Rk, by decide, rfl, rfl, (by decide +kernel), Or.inl (xIn 102 (by decide +kernel) (by decide +kernel))⟩
theorem k_Gl_34 : xLkV RGl 34 m_Gl_become 2 0 := ⟨⟨Or.inl (xIn 778 (by decide +kernel) (by decide +kernel)), h_Gl_become, (by decide +kernel), ⟨(by decide +kernel), (by decide +kernel)⟩, (by decide +kernel)⟩, xIn 434 (by decide +kernel) (by decide +kernel), xIn 435 (by decide +kernel) (by decide +kernel), _, _, rfl⟩
theorem k_Gl_38 : .methodLink RGl 38 Lib.Math.max.name ∈ xWS := xIn 779 (by decide +kernel) (by decide +kernel)
theorem k_Gl_44 : .methodLink RGl 44 Lib.Math.min.name ∈ xWS := xIn 780 (by decide +kernel) (by decide +kernel)
theorem k_Gl_47 : xLkV RGl 47 m_Gl_addFlaw 4 0 := ⟨⟨Or.inl (xIn 783 (by decide +kernel) (by decide +kernel)), h_Gl_addFlaw, (by decide +kernel), ⟨(by decide +kernel), (by decide +kernel)⟩, (by decide +kernel)⟩, xIn 472 (by decide +kernel) (by decide +kernel), xIn 473 (by decide +kernel) (by decide +kernel), _, _, rfl⟩
theorem k_Ha_204 : xLkV RHa 204 m_Tr_clear 0 7 := ⟨⟨Or.inl (xIn 788 (by decide +kernel) (by decide +kernel)), h_Tr_clear, (by decide +kernel), ⟨(by decide +kernel), (by decide +kernel)⟩, (by decide +kernel)⟩, xIn 579 (by decide +kernel) (by decide +kernel), xIn 580 (by decide +kernel) (by decide +kernel), _, _, rfl⟩
theorem k_Lw_47 : xLkV RLw 47 m_Ha_broke 2 9 := ⟨⟨Or.inl (xIn 792 (by decide +kernel) (by decide +kernel)), h_Ha_broke, (by decide +kernel), ⟨(by decide +kernel), (by decide +kernel)⟩, (by decide +kernel)⟩, xIn 793 (by decide +kernel) (by decide +kernel), xIn 794 (by decide +kernel) (by decide +kernel), _, _, rfl⟩
theorem pf_Ha_190 : xPd RHa 190 9 10 (.long) := ⟨_, _, _, cl_Ha, by decide, rfl, rfl, (by decide +kernel), Or.inl (xIn 265 (by decide +kernel) (by decide +kernel))⟩
theorem k_Ha_196 : xLkV RHa 196 m_Ha_reopenPanes 2 9 := ⟨⟨Or.inl (xIn 796 (by decide +kernel) (by decide +kernel)), h_Ha_reopenPanes, (by decide +kernel), ⟨(by decide +kernel), (by decide +kernel)⟩, (by decide +kernel)⟩, xIn 798 (by decide +kernel) (by decide +kernel), xInS 25 11 (by decide +kernel) rfl, _, _, rfl⟩
theorem k_Ha_200 : xLkV RHa 200 m_Tr_breakFrom 1 7 := ⟨⟨Or.inl (xIn 808 (by decide +kernel) (by decide +kernel)), h_Tr_breakFrom, (by decide +kernel), ⟨(by decide +kernel), (by decide +kernel)⟩, (by decide +kernel)⟩, xIn 809 (by decide +kernel) (by decide +kernel), xIn 810 (by decide +kernel) (by decide +kernel), _, _, rfl⟩
theorem k_Ha_315 : xLkV RHa 315 m_Tr_endOf 1 7 := ⟨⟨Or.inl (xIn 800 (by decide +kernel) (by decide +kernel)), h_Tr_endOf, (by decide +kernel), ⟨(by decide +kernel), (by decide +kernel)⟩, (by decide +kernel)⟩, xIn 801 (by decide +kernel) (by decide +kernel), xIn 802 (by decide +kernel) (by decide +kernel), _, _, rfl⟩
theorem k_Ha_319 : xLkV RHa 319 m_Bk_reopen 1 3 := ⟨⟨Or.inl (xIn 804 (by decide +kernel) (by decide +kernel)), h_Bk_reopen, (by decide +kernel), ⟨(by decide +kernel), (by decide +kernel)⟩, (by decide +kernel)⟩, xIn 805 (by decide +kernel) (by decide +kernel), xIn 806 (by decide +kernel) (by decide +kernel), _, _, rfl⟩
theorem k_Tr_101 : xLkV RTr 101 m_Tr_endOf 1 7 := ⟨⟨Or.inl (xIn 812 (by decide +kernel) (by decide +kernel)), h_Tr_endOf, (by decide +kernel), ⟨(by decide +kernel), (by decide +kernel)⟩, (by decide +kernel)⟩, xIn 801 (by decide +kernel) (by decide +kernel), xIn 802 (by decide +kernel) (by decide +kernel), _, _, rfl⟩
theorem k_Lw_50 : xLkV RLw 50 m_Ha_cancel 1 9 := ⟨⟨Or.inl (xIn 816 (by decide +kernel) (by decide +kernel)), h_Ha_cancel, (by decide +kernel), ⟨(by decide +kernel), (by decide +kernel)⟩, (by decide +kernel)⟩, xIn 817 (by decide +kernel) (by decide +kernel), xIn 818 (by decide +kernel) (by decide +kernel), _, _, rfl⟩
theorem k_Lw_53 : xLkV RLw 53 m_Ha_use 1 9 := ⟨⟨Or.inl (xIn 823 (by decide +kernel) (by decide +kernel)), h_Ha_use, (by decide +kernel), ⟨(by decide +kernel), (by decide +kernel)⟩, (by decide +kernel)⟩, xIn 824 (by decide +kernel) (by decide +kernel), xIn 825 (by decide +kernel) (by decide +kernel), _, _, rfl⟩
theorem k_Ha_207 : xLkV RHa 207 m_Ha_findOffcut 1 9 := ⟨⟨Or.inl (xIn 827 (by decide +kernel) (by decide +kernel)), h_Ha_findOffcut, (by decide +kernel), ⟨(by decide +kernel), (by decide +kernel)⟩, (by decide +kernel)⟩, xIn 829 (by decide +kernel) (by decide +kernel), xInS 26 11 (by decide +kernel) rfl, _, _, rfl⟩
theorem k_Ha_211 : xLkV RHa 211 m_Gl_becomePart 5 0 := ⟨⟨Or.inl (xIn 835 (by decide +kernel) (by decide +kernel)), h_Gl_becomePart, (by decide +kernel), ⟨(by decide +kernel), (by decide +kernel)⟩, (by decide +kernel)⟩, xIn 775 (by decide +kernel) (by decide +kernel), xIn 776 (by decide +kernel) (by decide +kernel), _, _, rfl⟩
theorem k_Ha_215 : xLkV RHa 215 m_Rk_remove 1 4 := ⟨⟨Or.inl (xIn 836 (by decide +kernel) (by decide +kernel)), h_Rk_remove, (by decide +kernel), ⟨(by decide +kernel), (by decide +kernel)⟩, (by decide +kernel)⟩, xIn 837 (by decide +kernel) (by decide +kernel), xIn 838 (by decide +kernel) (by decide +kernel), _, _, rfl⟩
theorem k_Ha_274 : xLkV RHa 274 m_Rk_has 1 4 := ⟨⟨Or.inl (xIn 831 (by decide +kernel) (by decide +kernel)), h_Rk_has, (by decide +kernel), ⟨(by decide +kernel), (by decide +kernel)⟩, (by decide +kernel)⟩, xIn 832 (by decide +kernel) (by decide +kernel), xIn 833 (by decide +kernel) (by decide +kernel), _, _, rfl⟩
theorem gf_Ha_275 : xFd RHa 275 4 0 := ⟨_, _, _, cl_Rk, by decide, rfl, Or.inl (xIn 101 (by decide +kernel) (by decide +kernel))⟩
theorem k_Rk_26 : xLkV RRk 26 m_Rk_has 1 4 := ⟨⟨Or.inl (xIn 840 (by decide +kernel) (by decide +kernel)), h_Rk_has, (by decide +kernel), ⟨(by decide +kernel), (by decide +kernel)⟩, (by decide +kernel)⟩, xIn 832 (by decide +kernel) (by decide +kernel), xIn 833 (by decide +kernel) (by decide +kernel), _, _, rfl⟩
theorem k_Lw_56 : xLkV RLw 56 m_Ha_rack 2 9 := ⟨⟨Or.inl (xIn 844 (by decide +kernel) (by decide +kernel)), h_Ha_rack, (by decide +kernel), ⟨(by decide +kernel), (by decide +kernel)⟩, (by decide +kernel)⟩, xIn 845 (by decide +kernel) (by decide +kernel), xIn 846 (by decide +kernel) (by decide +kernel), _, _, rfl⟩
theorem k_Lw_59 : xLkV RLw 59 m_Ha_flawed 3 9 := ⟨⟨Or.inl (xIn 851 (by decide +kernel) (by decide +kernel)), h_Ha_flawed, (by decide +kernel), ⟨(by decide +kernel), (by decide +kernel)⟩, (by decide +kernel)⟩, xIn 852 (by decide +kernel) (by decide +kernel), xIn 853 (by decide +kernel) (by decide +kernel), _, _, rfl⟩
theorem gf_Ha_221 : xFd RHa 221 0 0 := ⟨_, _, _, cl_Gl, by decide, rfl, Or.inl (xIn 66 (by decide +kernel) (by decide +kernel))⟩
theorem gf_Ha_224 : xFd RHa 224 0 1 := ⟨_, _, _, cl_Gl, by decide, rfl, Or.inl (xIn 68 (by decide +kernel) (by decide +kernel))⟩
theorem gf_Ha_227 : xFd RHa 227 0 2 := ⟨_, _, _, cl_Gl, by decide, rfl, Or.inl (xIn 70 (by decide +kernel) (by decide +kernel))⟩
theorem gf_Ha_230 : xFd RHa 230 0 3 := ⟨_, _, _, cl_Gl, by decide, rfl, Or.inl (xIn 72 (by decide +kernel) (by decide +kernel))⟩
theorem k_Lw_62 : xLkV RLw 62 m_Ha_panes 2 9 := ⟨⟨Or.inl (xIn 858 (by decide +kernel) (by decide +kernel)), h_Ha_panes, (by decide +kernel), ⟨(by decide +kernel), (by decide +kernel)⟩, (by decide +kernel)⟩, xIn 859 (by decide +kernel) (by decide +kernel), xIn 860 (by decide +kernel) (by decide +kernel), _, _, rfl⟩
theorem k_Ha_233 : xLkV RHa 233 m_Bk_at 1 3 := ⟨⟨Or.inl (xIn 862 (by decide +kernel) (by decide +kernel)), h_Bk_at, (by decide +kernel), ⟨(by decide +kernel), (by decide +kernel)⟩, (by decide +kernel)⟩, xIn 555 (by decide +kernel) (by decide +kernel), xIn 556 (by decide +kernel) (by decide +kernel), _, _, rfl⟩
theorem gf_Ha_237 : xFd RHa 237 2 3 := ⟨_, _, _, cl_Or, by decide, rfl, Or.inl (xIn 501 (by decide +kernel) (by decide +kernel))⟩
theorem gf_Ha_240 : xFd RHa 240 2 4 := ⟨_, _, _, cl_Or, by decide, rfl, Or.inl (xIn 503 (by decide +kernel) (by decide +kernel))⟩
theorem gf_Ha_243 : xFd RHa 243 2 5 := ⟨_, _, _, cl_Or, by decide, rfl, Or.inl (xIn 505 (by decide +kernel) (by decide +kernel))⟩
theorem k_Mo_1 : .methodLink RMo 1 Lib.objectInit ∈ xWS := xIn 868 (by decide +kernel) (by decide +kernel)
theorem pf_Mo_7 : xPf RMo 7 10 2 (.array (.boolean)) := ⟨_, _, cl_Mo, by decide, rfl, rfl, (by decide +kernel), xIn 871 (by decide +kernel) (by decide +kernel)⟩
theorem pf_Mo_13 : xPf RMo 13 10 3 (.array (.int)) := ⟨_, _, cl_Mo, by decide, rfl, rfl, (by decide +kernel), xIn 872 (by decide +kernel) (by decide +kernel)⟩
theorem pf_Mo_17 : xPf RMo 17 10 4 (.array (.int)) := ⟨_, _, cl_Mo, by decide, rfl, rfl, (by decide +kernel), xIn 873 (by decide +kernel) (by decide +kernel)⟩
theorem pf_Mo_20 : xPf RMo 20 10 5 (.array (.int)) := ⟨_, _, cl_Mo, by decide, rfl, rfl, (by decide +kernel), xIn 874 (by decide +kernel) (by decide +kernel)⟩
theorem pf_Mo_23 : xPf RMo 23 10 6 (.array (.boolean)) := ⟨_, _, cl_Mo, by decide, rfl, rfl, (by decide +kernel), xIn 875 (by decide +kernel) (by decide +kernel)⟩
theorem pf_Mo_26 : xPf RMo 26 10 7 (.array (.boolean)) := ⟨_, _, cl_Mo, by decide, rfl, rfl, (by decide +kernel), xIn 876 (by decide +kernel) (by decide +kernel)⟩
theorem pf_Mo_29 : xPf RMo 29 10 8 (.array (.int)) := ⟨_, _, cl_Mo, by decide, rfl, rfl, (by decide +kernel), xIn 877 (by decide +kernel) (by decide +kernel)⟩
theorem pf_Mo_32 : xPf RMo 32 10 9 (.array (.int)) := ⟨_, _, cl_Mo, by decide, rfl, rfl, (by decide +kernel), xIn 878 (by decide +kernel) (by decide +kernel)⟩
theorem pf_Mo_35 : xPf RMo 35 10 10 (.array (.int)) := ⟨_, _, cl_Mo, by decide, rfl, rfl, (by decide +kernel), xIn 879 (by decide +kernel) (by decide +kernel)⟩
theorem pf_Mo_38 : xPf RMo 38 10 11 (.array (.int)) := ⟨_, _, cl_Mo, by decide, rfl, rfl, (by decide +kernel), xIn 880 (by decide +kernel) (by decide +kernel)⟩
theorem pf_Mo_41 : xPf RMo 41 10 12 (.array (.int)) := ⟨_, _, cl_Mo, by decide, rfl, rfl, (by decide +kernel), xIn 881 (by decide +kernel) (by decide +kernel)⟩
theorem pf_Mo_44 : xPf RMo 44 10 13 (.array (.int)) := ⟨_, _, cl_Mo, by decide, rfl, rfl, (by decide +kernel), xIn 882 (by decide +kernel) (by decide +kernel)⟩
theorem pf_Mo_47 : xPf RMo 47 10 14 (.array (.int)) := ⟨_, _, cl_Mo, by decide, rfl, rfl, (by decide +kernel), xIn 883 (by decide +kernel) (by decide +kernel)⟩
theorem pf_Mo_50 : xPf RMo 50 10 15 (.array (.int)) := ⟨_, _, cl_Mo, by decide, rfl, rfl, (by decide +kernel), xIn 884 (by decide +kernel) (by decide +kernel)⟩
theorem pf_Mo_53 : xPf RMo 53 10 16 (.array (.int)) := ⟨_, _, cl_Mo, by decide, rfl, rfl, (by decide +kernel), xIn 885 (by decide +kernel) (by decide +kernel)⟩
theorem pf_Mo_56 : xPf RMo 56 10 17 (.array (.int)) := ⟨_, _, cl_Mo, by decide, rfl, rfl, (by decide +kernel), xIn 886 (by decide +kernel) (by decide +kernel)⟩
theorem pf_Mo_59 : xPf RMo 59 10 18 (.array (.int)) := ⟨_, _, cl_Mo, by decide, rfl, rfl, (by decide +kernel), xIn 887 (by decide +kernel) (by decide +kernel)⟩
theorem pf_Mo_62 : xPf RMo 62 10 19 (.array (.int)) := ⟨_, _, cl_Mo, by decide, rfl, rfl, (by decide +kernel), xIn 888 (by decide +kernel) (by decide +kernel)⟩
theorem pf_Mo_65 : xPf RMo 65 10 21 (.array (.int)) := ⟨_, _, cl_Mo, by decide, rfl, rfl, (by decide +kernel), xIn 890 (by decide +kernel) (by decide +kernel)⟩
theorem pf_Mo_68 : xPf RMo 68 10 22 (.array (.int)) := ⟨_, _, cl_Mo, by decide, rfl, rfl, (by decide +kernel), xIn 891 (by decide +kernel) (by decide +kernel)⟩
theorem pf_Mo_71 : xPf RMo 71 10 23 (.array (.boolean)) := ⟨_, _, cl_Mo, by decide, rfl, rfl, (by decide +kernel), xIn 892 (by decide +kernel) (by decide +kernel)⟩
theorem pf_Mo_74 : xPf RMo 74 10 24 (.array (.int)) := ⟨_, _, cl_Mo, by decide, rfl, rfl, (by decide +kernel), xIn 893 (by decide +kernel) (by decide +kernel)⟩
theorem pf_Mo_77 : xPf RMo 77 10 25 (.array (.int)) := ⟨_, _, cl_Mo, by decide, rfl, rfl, (by decide +kernel), xIn 894 (by decide +kernel) (by decide +kernel)⟩
theorem pf_Mo_80 : xPf RMo 80 10 26 (.array (.int)) := ⟨_, _, cl_Mo, by decide, rfl, rfl, (by decide +kernel), xIn 895 (by decide +kernel) (by decide +kernel)⟩
theorem pf_Mo_83 : xPf RMo 83 10 28 (.array (.int)) := ⟨_, _, cl_Mo, by decide, rfl, rfl, (by decide +kernel), xIn 897 (by decide +kernel) (by decide +kernel)⟩
theorem pf_Mo_86 : xPf RMo 86 10 29 (.array (.int)) := ⟨_, _, cl_Mo, by decide, rfl, rfl, (by decide +kernel), xIn 898 (by decide +kernel) (by decide +kernel)⟩
theorem pf_Mo_89 : xPf RMo 89 10 30 (.array (.int)) := ⟨_, _, cl_Mo, by decide, rfl, rfl, (by decide +kernel), xIn 899 (by decide +kernel) (by decide +kernel)⟩
theorem pf_Mo_92 : xPf RMo 92 10 31 (.array (.int)) := ⟨_, _, cl_Mo, by decide, rfl, rfl, (by decide +kernel), xIn 900 (by decide +kernel) (by decide +kernel)⟩
theorem pf_Mo_95 : xPf RMo 95 10 37 (.array (.int)) := ⟨_, _, cl_Mo, by decide, rfl, rfl, (by decide +kernel), xIn 906 (by decide +kernel) (by decide +kernel)⟩
theorem pf_Mo_98 : xPf RMo 98 10 38 (.array (.int)) := ⟨_, _, cl_Mo, by decide, rfl, rfl, (by decide +kernel), xIn 907 (by decide +kernel) (by decide +kernel)⟩
theorem pf_Mo_101 : xPf RMo 101 10 39 (.array (.int)) := ⟨_, _, cl_Mo, by decide, rfl, rfl, (by decide +kernel), xIn 908 (by decide +kernel) (by decide +kernel)⟩
theorem pf_Mo_104 : xPf RMo 104 10 40 (.array (.int)) := ⟨_, _, cl_Mo, by decide, rfl, rfl, (by decide +kernel), xIn 909 (by decide +kernel) (by decide +kernel)⟩
theorem pf_Mo_107 : xPf RMo 107 10 41 (.array (.int)) := ⟨_, _, cl_Mo, by decide, rfl, rfl, (by decide +kernel), xIn 910 (by decide +kernel) (by decide +kernel)⟩
theorem pf_Mo_110 : xPf RMo 110 10 42 (.array (.int)) := ⟨_, _, cl_Mo, by decide, rfl, rfl, (by decide +kernel), xIn 911 (by decide +kernel) (by decide +kernel)⟩
theorem pf_Mo_113 : xPf RMo 113 10 44 (.array (.int)) := ⟨_, _, cl_Mo, by decide, rfl, rfl, (by decide +kernel), xIn 913 (by decide +kernel) (by decide +kernel)⟩
theorem pf_Mo_116 : xPf RMo 116 10 45 (.array (.int)) := ⟨_, _, cl_Mo, by decide, rfl, rfl, (by decide +kernel), xIn 914 (by decide +kernel) (by decide +kernel)⟩
theorem pf_Mo_119 : xPf RMo 119 10 46 (.array (.int)) := ⟨_, _, cl_Mo, by decide, rfl, rfl, (by decide +kernel), xIn 915 (by decide +kernel) (by decide +kernel)⟩
theorem pf_Mo_122 : xPf RMo 122 10 47 (.array (.int)) := ⟨_, _, cl_Mo, by decide, rfl, rfl, (by decide +kernel), xIn 916 (by decide +kernel) (by decide +kernel)⟩
theorem pf_Mo_125 : xPf RMo 125 10 48 (.array (.int)) := ⟨_, _, cl_Mo, by decide, rfl, rfl, (by decide +kernel), xIn 917 (by decide +kernel) (by decide +kernel)⟩
theorem pf_Mo_128 : xPf RMo 128 10 49 (.array (.int)) := ⟨_, _, cl_Mo, by decide, rfl, rfl, (by decide +kernel), xIn 918 (by decide +kernel) (by decide +kernel)⟩
theorem pf_Mo_131 : xPf RMo 131 10 50 (.array (.int)) := ⟨_, _, cl_Mo, by decide, rfl, rfl, (by decide +kernel), xIn 919 (by decide +kernel) (by decide +kernel)⟩
theorem pf_Mo_134 : xPf RMo 134 10 51 (.array (.int)) := ⟨_, _, cl_Mo, by decide, rfl, rfl, (by decide +kernel), xIn 920 (by decide +kernel) (by decide +kernel)⟩
theorem pf_Mo_137 : xPf RMo 137 10 52 (.array (.int)) := ⟨_, _, cl_Mo, by decide, rfl, rfl, (by decide +kernel), xIn 921 (by decide +kernel) (by decide +kernel)⟩
theorem gf_Mo_140 : xFd RMo 140 10 0 := ⟨_, _, _, cl_Mo, by decide, rfl, Or.inl (xIn 869 (by decide +kernel) (by decide +kernel))⟩
theorem k_Mo_150 : xLkS RMo 150 m_Mo_isLength 1 := ⟨⟨Or.inl (xIn 1038 (by decide +kernel) (by decide +kernel)), h_Mo_isLength, (by decide +kernel), ⟨(by decide +kernel), (by decide +kernel)⟩, (by decide +kernel)⟩, xIn 1039 (by decide +kernel) (by decide +kernel), ni_Mo⟩
theorem k_Mo_154 : xLkV RMo 154 m_Mo_sheets 0 10 := ⟨⟨Or.inl (xIn 1041 (by decide +kernel) (by decide +kernel)), h_Mo_sheets, (by decide +kernel), ⟨(by decide +kernel), (by decide +kernel)⟩, (by decide +kernel)⟩, xIn 1043 (by decide +kernel) (by decide +kernel), xInS 27 53 (by decide +kernel) rfl, _, _, rfl⟩
theorem pf_Mo_140 : xPd RMo 140 10 0 (.int) := ⟨_, _, _, cl_Mo, by decide, rfl, rfl, (by decide +kernel), Or.inl (xIn 869 (by decide +kernel) (by decide +kernel))⟩
theorem gf_Mo_158 : xFd RMo 158 10 35 := ⟨_, _, _, cl_Mo, by decide, rfl, Or.inl (xIn 904 (by decide +kernel) (by decide +kernel))⟩
theorem pf_Mo_158 : xPd RMo 158 10 35 (.long) := ⟨_, _, _, cl_Mo, by decide, rfl, rfl, (by decide +kernel), Or.inl (xIn 904 (by decide +kernel) (by decide +kernel))⟩
theorem gf_Mo_13 : xFd RMo 13 10 3 := ⟨_, _, _, cl_Mo, by decide, rfl, Or.inl (xIn 872 (by decide +kernel) (by decide +kernel))⟩
theorem k_Mo_162 : xLkV RMo 162 m_Mo_make 2 10 := ⟨⟨Or.inl (xIn 1045 (by decide +kernel) (by decide +kernel)), h_Mo_make, (by decide +kernel), ⟨(by decide +kernel), (by decide +kernel)⟩, (by decide +kernel)⟩, xIn 1047 (by decide +kernel) (by decide +kernel), xInS 28 53 (by decide +kernel) rfl, _, _, rfl⟩
theorem gf_Mo_7 : xFd RMo 7 10 2 := ⟨_, _, _, cl_Mo, by decide, rfl, Or.inl (xIn 871 (by decide +kernel) (by decide +kernel))⟩
theorem gf_Mo_147 : xFd RMo 147 10 1 := ⟨_, _, _, cl_Mo, by decide, rfl, Or.inl (xIn 870 (by decide +kernel) (by decide +kernel))⟩
theorem gf_Mo_17 : xFd RMo 17 10 4 := ⟨_, _, _, cl_Mo, by decide, rfl, Or.inl (xIn 873 (by decide +kernel) (by decide +kernel))⟩
theorem gf_Mo_20 : xFd RMo 20 10 5 := ⟨_, _, _, cl_Mo, by decide, rfl, Or.inl (xIn 874 (by decide +kernel) (by decide +kernel))⟩
theorem gf_Mo_23 : xFd RMo 23 10 6 := ⟨_, _, _, cl_Mo, by decide, rfl, Or.inl (xIn 875 (by decide +kernel) (by decide +kernel))⟩
theorem gf_Mo_26 : xFd RMo 26 10 7 := ⟨_, _, _, cl_Mo, by decide, rfl, Or.inl (xIn 876 (by decide +kernel) (by decide +kernel))⟩
theorem gf_Mo_29 : xFd RMo 29 10 8 := ⟨_, _, _, cl_Mo, by decide, rfl, Or.inl (xIn 877 (by decide +kernel) (by decide +kernel))⟩
theorem pf_Mo_147 : xPd RMo 147 10 1 (.int) := ⟨_, _, _, cl_Mo, by decide, rfl, rfl, (by decide +kernel), Or.inl (xIn 870 (by decide +kernel) (by decide +kernel))⟩
theorem k_Mo_166 : xLkV RMo 166 m_Mo_find 1 10 := ⟨⟨Or.inl (xIn 1053 (by decide +kernel) (by decide +kernel)), h_Mo_find, (by decide +kernel), ⟨(by decide +kernel), (by decide +kernel)⟩, (by decide +kernel)⟩, xIn 1055 (by decide +kernel) (by decide +kernel), xInS 29 53 (by decide +kernel) rfl, _, _, rfl⟩
theorem k_Mo_170 : xLkV RMo 170 m_Mo_putFlaw 5 10 := ⟨⟨Or.inl (xIn 1057 (by decide +kernel) (by decide +kernel)), h_Mo_putFlaw, (by decide +kernel), ⟨(by decide +kernel), (by decide +kernel)⟩, (by decide +kernel)⟩, xIn 1059 (by decide +kernel) (by decide +kernel), xInS 30 53 (by decide +kernel) rfl, _, _, rfl⟩
theorem gf_Mo_32 : xFd RMo 32 10 9 := ⟨_, _, _, cl_Mo, by decide, rfl, Or.inl (xIn 878 (by decide +kernel) (by decide +kernel))⟩
theorem gf_Mo_144 : xFd RMo 144 10 20 := ⟨_, _, _, cl_Mo, by decide, rfl, Or.inl (xIn 889 (by decide +kernel) (by decide +kernel))⟩
theorem gf_Mo_65 : xFd RMo 65 10 21 := ⟨_, _, _, cl_Mo, by decide, rfl, Or.inl (xIn 890 (by decide +kernel) (by decide +kernel))⟩
theorem gf_Mo_68 : xFd RMo 68 10 22 := ⟨_, _, _, cl_Mo, by decide, rfl, Or.inl (xIn 891 (by decide +kernel) (by decide +kernel))⟩
theorem gf_Mo_71 : xFd RMo 71 10 23 := ⟨_, _, _, cl_Mo, by decide, rfl, Or.inl (xIn 892 (by decide +kernel) (by decide +kernel))⟩
theorem gf_Mo_74 : xFd RMo 74 10 24 := ⟨_, _, _, cl_Mo, by decide, rfl, Or.inl (xIn 893 (by decide +kernel) (by decide +kernel))⟩
theorem pf_Mo_144 : xPd RMo 144 10 20 (.int) := ⟨_, _, _, cl_Mo, by decide, rfl, rfl, (by decide +kernel), Or.inl (xIn 889 (by decide +kernel) (by decide +kernel))⟩
theorem k_Mo_241 : xLkV RMo 241 m_Mo_strips 1 10 := ⟨⟨Or.inl (xIn 1069 (by decide +kernel) (by decide +kernel)), h_Mo_strips, (by decide +kernel), ⟨(by decide +kernel), (by decide +kernel)⟩, (by decide +kernel)⟩, xIn 1071 (by decide +kernel) (by decide +kernel), xInS 31 53 (by decide +kernel) rfl, _, _, rfl⟩
theorem gf_Mo_174 : xFd RMo 174 10 36 := ⟨_, _, _, cl_Mo, by decide, rfl, Or.inl (xIn 905 (by decide +kernel) (by decide +kernel))⟩
theorem k_Mo_244 : xLkV RMo 244 m_Mo_adopt 1 10 := ⟨⟨Or.inl (xIn 1096 (by decide +kernel) (by decide +kernel)), h_Mo_adopt, (by decide +kernel), ⟨(by decide +kernel), (by decide +kernel)⟩, (by decide +kernel)⟩, xIn 1098 (by decide +kernel) (by decide +kernel), xInS 37 53 (by decide +kernel) rfl, _, _, rfl⟩
theorem pf_Mo_174 : xPd RMo 174 10 36 (.int) := ⟨_, _, _, cl_Mo, by decide, rfl, rfl, (by decide +kernel), Or.inl (xIn 905 (by decide +kernel) (by decide +kernel))⟩
theorem gf_Mo_110 : xFd RMo 110 10 42 := ⟨_, _, _, cl_Mo, by decide, rfl, Or.inl (xIn 911 (by decide +kernel) (by decide +kernel))⟩
theorem k_Mo_208 : xLkV RMo 208 m_Mo_choose 3 10 := ⟨⟨Or.inl (xIn 1073 (by decide +kernel) (by decide +kernel)), h_Mo_choose, (by decide +kernel), ⟨(by decide +kernel), (by decide +kernel)⟩, (by decide +kernel)⟩, xIn 1075 (by decide +kernel) (by decide +kernel), xInS 32 53 (by decide +kernel) rfl, _, _, rfl⟩
theorem k_Mo_212 : xLkV RMo 212 m_Mo_lay 4 10 := ⟨⟨Or.inl (xIn 1092 (by decide +kernel) (by decide +kernel)), h_Mo_lay, (by decide +kernel), ⟨(by decide +kernel), (by decide +kernel)⟩, (by decide +kernel)⟩, xIn 1094 (by decide +kernel) (by decide +kernel), xInS 36 53 (by decide +kernel) rfl, _, _, rfl⟩
theorem gf_Mo_98 : xFd RMo 98 10 38 := ⟨_, _, _, cl_Mo, by decide, rfl, Or.inl (xIn 907 (by decide +kernel) (by decide +kernel))⟩
theorem gf_Mo_101 : xFd RMo 101 10 39 := ⟨_, _, _, cl_Mo, by decide, rfl, Or.inl (xIn 908 (by decide +kernel) (by decide +kernel))⟩
theorem k_Mo_200 : xLkV RMo 200 m_Mo_isPossible 5 10 := ⟨⟨Or.inl (xIn 1077 (by decide +kernel) (by decide +kernel)), h_Mo_isPossible, (by decide +kernel), ⟨(by decide +kernel), (by decide +kernel)⟩, (by decide +kernel)⟩, xIn 1079 (by decide +kernel) (by decide +kernel), xInS 33 53 (by decide +kernel) rfl, _, _, rfl⟩
theorem k_Mo_204 : xLkV RMo 204 m_Mo_isBefore 2 10 := ⟨⟨Or.inl (xIn 1088 (by decide +kernel) (by decide +kernel)), h_Mo_isBefore, (by decide +kernel), ⟨(by decide +kernel), (by decide +kernel)⟩, (by decide +kernel)⟩, xIn 1090 (by decide +kernel) (by decide +kernel), xInS 35 53 (by decide +kernel) rfl, _, _, rfl⟩
theorem k_Mo_196 : xLkV RMo 196 m_Mo_meets 6 10 := ⟨⟨Or.inl (xIn 1081 (by decide +kernel) (by decide +kernel)), h_Mo_meets, (by decide +kernel), ⟨(by decide +kernel), (by decide +kernel)⟩, (by decide +kernel)⟩, xIn 1083 (by decide +kernel) (by decide +kernel), xInS 34 53 (by decide +kernel) rfl, _, _, rfl⟩
theorem k_Mo_192 : xLkS RMo 192 m_Mo_overlap 4 := ⟨⟨Or.inl (xIn 1085 (by decide +kernel) (by decide +kernel)), h_Mo_overlap, (by decide +kernel), ⟨(by decide +kernel), (by decide +kernel)⟩, (by decide +kernel)⟩, xIn 1086 (by decide +kernel) (by decide +kernel), ni_Mo⟩
theorem gf_Mo_95 : xFd RMo 95 10 37 := ⟨_, _, _, cl_Mo, by decide, rfl, Or.inl (xIn 906 (by decide +kernel) (by decide +kernel))⟩
theorem gf_Mo_104 : xFd RMo 104 10 40 := ⟨_, _, _, cl_Mo, by decide, rfl, Or.inl (xIn 909 (by decide +kernel) (by decide +kernel))⟩
theorem gf_Mo_107 : xFd RMo 107 10 41 := ⟨_, _, _, cl_Mo, by decide, rfl, Or.inl (xIn 910 (by decide +kernel) (by decide +kernel))⟩
theorem gf_Mo_35 : xFd RMo 35 10 10 := ⟨_, _, _, cl_Mo, by decide, rfl, Or.inl (xIn 879 (by decide +kernel) (by decide +kernel))⟩
theorem pf_Mo_216 : xPd RMo 216 10 43 (.int) := ⟨_, _, _, cl_Mo, by decide, rfl, rfl, (by decide +kernel), Or.inl (xIn 912 (by decide +kernel) (by decide +kernel))⟩
theorem k_Mo_230 : xLkV RMo 230 m_Mo_push 5 10 := ⟨⟨Or.inl (xIn 1100 (by decide +kernel) (by decide +kernel)), h_Mo_push, (by decide +kernel), ⟨(by decide +kernel), (by decide +kernel)⟩, (by decide +kernel)⟩, xIn 1102 (by decide +kernel) (by decide +kernel), xInS 38 53 (by decide +kernel) rfl, _, _, rfl⟩
theorem k_Mo_233 : xLkV RMo 233 m_Mo_at 4 10 := ⟨⟨Or.inl (xIn 1104 (by decide +kernel) (by decide +kernel)), h_Mo_at, (by decide +kernel), ⟨(by decide +kernel), (by decide +kernel)⟩, (by decide +kernel)⟩, xIn 1106 (by decide +kernel) (by decide +kernel), xInS 39 53 (by decide +kernel) rfl, _, _, rfl⟩
theorem gf_Mo_216 : xFd RMo 216 10 43 := ⟨_, _, _, cl_Mo, by decide, rfl, Or.inl (xIn 912 (by decide +kernel) (by decide +kernel))⟩
theorem k_Mo_237 : xLkV RMo 237 m_Mo_grow 1 10 := ⟨⟨Or.inl (xIn 1108 (by decide +kernel) (by decide +kernel)), h_Mo_grow, (by decide +kernel), ⟨(by decide +kernel), (by decide +kernel)⟩, (by decide +kernel)⟩, xIn 1110 (by decide +kernel) (by decide +kernel), xInS 40 53 (by decide +kernel) rfl, _, _, rfl⟩
theorem gf_Mo_62 : xFd RMo 62 10 19 := ⟨_, _, _, cl_Mo, by decide, rfl, Or.inl (xIn 888 (by decide +kernel) (by decide +kernel))⟩
theorem gf_Mo_77 : xFd RMo 77 10 25 := ⟨_, _, _, cl_Mo, by decide, rfl, Or.inl (xIn 894 (by decide +kernel) (by decide +kernel))⟩
theorem gf_Mo_113 : xFd RMo 113 10 44 := ⟨_, _, _, cl_Mo, by decide, rfl, Or.inl (xIn 913 (by decide +kernel) (by decide +kernel))⟩
theorem gf_Mo_116 : xFd RMo 116 10 45 := ⟨_, _, _, cl_Mo, by decide, rfl, Or.inl (xIn 914 (by decide +kernel) (by decide +kernel))⟩
theorem gf_Mo_119 : xFd RMo 119 10 46 := ⟨_, _, _, cl_Mo, by decide, rfl, Or.inl (xIn 915 (by decide +kernel) (by decide +kernel))⟩
theorem gf_Mo_122 : xFd RMo 122 10 47 := ⟨_, _, _, cl_Mo, by decide, rfl, Or.inl (xIn 916 (by decide +kernel) (by decide +kernel))⟩
theorem gf_Mo_137 : xFd RMo 137 10 52 := ⟨_, _, _, cl_Mo, by decide, rfl, Or.inl (xIn 921 (by decide +kernel) (by decide +kernel))⟩
theorem gf_Mo_125 : xFd RMo 125 10 48 := ⟨_, _, _, cl_Mo, by decide, rfl, Or.inl (xIn 917 (by decide +kernel) (by decide +kernel))⟩
theorem gf_Mo_128 : xFd RMo 128 10 49 := ⟨_, _, _, cl_Mo, by decide, rfl, Or.inl (xIn 918 (by decide +kernel) (by decide +kernel))⟩
theorem gf_Mo_131 : xFd RMo 131 10 50 := ⟨_, _, _, cl_Mo, by decide, rfl, Or.inl (xIn 919 (by decide +kernel) (by decide +kernel))⟩
theorem gf_Mo_134 : xFd RMo 134 10 51 := ⟨_, _, _, cl_Mo, by decide, rfl, Or.inl (xIn 920 (by decide +kernel) (by decide +kernel))⟩
theorem gf_Mo_41 : xFd RMo 41 10 12 := ⟨_, _, _, cl_Mo, by decide, rfl, Or.inl (xIn 881 (by decide +kernel) (by decide +kernel))⟩
theorem gf_Mo_44 : xFd RMo 44 10 13 := ⟨_, _, _, cl_Mo, by decide, rfl, Or.inl (xIn 882 (by decide +kernel) (by decide +kernel))⟩
theorem gf_Mo_47 : xFd RMo 47 10 14 := ⟨_, _, _, cl_Mo, by decide, rfl, Or.inl (xIn 883 (by decide +kernel) (by decide +kernel))⟩
theorem gf_Mo_50 : xFd RMo 50 10 15 := ⟨_, _, _, cl_Mo, by decide, rfl, Or.inl (xIn 884 (by decide +kernel) (by decide +kernel))⟩
theorem gf_Mo_56 : xFd RMo 56 10 17 := ⟨_, _, _, cl_Mo, by decide, rfl, Or.inl (xIn 886 (by decide +kernel) (by decide +kernel))⟩
theorem gf_Mo_59 : xFd RMo 59 10 18 := ⟨_, _, _, cl_Mo, by decide, rfl, Or.inl (xIn 887 (by decide +kernel) (by decide +kernel))⟩
theorem k_Mo_222 : xLkV RMo 222 m_Mo_reach 4 10 := ⟨⟨Or.inl (xIn 1112 (by decide +kernel) (by decide +kernel)), h_Mo_reach, (by decide +kernel), ⟨(by decide +kernel), (by decide +kernel)⟩, (by decide +kernel)⟩, xIn 1114 (by decide +kernel) (by decide +kernel), xInS 41 53 (by decide +kernel) rfl, _, _, rfl⟩
theorem gf_Mo_38 : xFd RMo 38 10 11 := ⟨_, _, _, cl_Mo, by decide, rfl, Or.inl (xIn 880 (by decide +kernel) (by decide +kernel))⟩
theorem gf_Mo_53 : xFd RMo 53 10 16 := ⟨_, _, _, cl_Mo, by decide, rfl, Or.inl (xIn 885 (by decide +kernel) (by decide +kernel))⟩
theorem k_Mo_219 : xLkV RMo 219 m_Mo_paneAt 3 10 := ⟨⟨Or.inl (xIn 1116 (by decide +kernel) (by decide +kernel)), h_Mo_paneAt, (by decide +kernel), ⟨(by decide +kernel), (by decide +kernel)⟩, (by decide +kernel)⟩, xIn 1118 (by decide +kernel) (by decide +kernel), xInS 42 53 (by decide +kernel) rfl, _, _, rfl⟩
theorem k_Mo_226 : xLkV RMo 226 m_Mo_split 6 10 := ⟨⟨Or.inl (xIn 1132 (by decide +kernel) (by decide +kernel)), h_Mo_split, (by decide +kernel), ⟨(by decide +kernel), (by decide +kernel)⟩, (by decide +kernel)⟩, xIn 1134 (by decide +kernel) (by decide +kernel), xInS 46 53 (by decide +kernel) rfl, _, _, rfl⟩
theorem k_Mo_183 : xLkV RMo 183 m_Mo_columnWidth 1 10 := ⟨⟨Or.inl (xIn 1120 (by decide +kernel) (by decide +kernel)), h_Mo_columnWidth, (by decide +kernel), ⟨(by decide +kernel), (by decide +kernel)⟩, (by decide +kernel)⟩, xIn 1122 (by decide +kernel) (by decide +kernel), xInS 43 53 (by decide +kernel) rfl, _, _, rfl⟩
theorem k_Mo_189 : xLkV RMo 189 m_Mo_rowHeight 2 10 := ⟨⟨Or.inl (xIn 1128 (by decide +kernel) (by decide +kernel)), h_Mo_rowHeight, (by decide +kernel), ⟨(by decide +kernel), (by decide +kernel)⟩, (by decide +kernel)⟩, xIn 1130 (by decide +kernel) (by decide +kernel), xInS 45 53 (by decide +kernel) rfl, _, _, rfl⟩
theorem k_Mo_177 : xLkV RMo 177 m_Mo_rowWidth 2 10 := ⟨⟨Or.inl (xIn 1124 (by decide +kernel) (by decide +kernel)), h_Mo_rowWidth, (by decide +kernel), ⟨(by decide +kernel), (by decide +kernel)⟩, (by decide +kernel)⟩, xIn 1126 (by decide +kernel) (by decide +kernel), xInS 44 53 (by decide +kernel) rfl, _, _, rfl⟩
theorem k_Mo_253 : xLkV RMo 253 m_Mo_isOrder 1 10 := ⟨⟨Or.inl (xIn 1140 (by decide +kernel) (by decide +kernel)), h_Mo_isOrder, (by decide +kernel), ⟨(by decide +kernel), (by decide +kernel)⟩, (by decide +kernel)⟩, xIn 1142 (by decide +kernel) (by decide +kernel), xInS 47 53 (by decide +kernel) rfl, _, _, rfl⟩
theorem k_Mo_256 : xLkV RMo 256 m_Mo_hasOpen 3 10 := ⟨⟨Or.inl (xIn 1144 (by decide +kernel) (by decide +kernel)), h_Mo_hasOpen, (by decide +kernel), ⟨(by decide +kernel), (by decide +kernel)⟩, (by decide +kernel)⟩, xIn 1146 (by decide +kernel) (by decide +kernel), xInS 48 53 (by decide +kernel) rfl, _, _, rfl⟩
theorem k_Mo_260 : xLkV RMo 260 m_Mo_isFound 4 10 := ⟨⟨Or.inl (xIn 1148 (by decide +kernel) (by decide +kernel)), h_Mo_isFound, (by decide +kernel), ⟨(by decide +kernel), (by decide +kernel)⟩, (by decide +kernel)⟩, xIn 1150 (by decide +kernel) (by decide +kernel), xInS 49 53 (by decide +kernel) rfl, _, _, rfl⟩
theorem k_Mo_247 : xLkV RMo 247 m_Mo_name 2 10 := ⟨⟨Or.inl (xIn 1152 (by decide +kernel) (by decide +kernel)), h_Mo_name, (by decide +kernel), ⟨(by decide +kernel), (by decide +kernel)⟩, (by decide +kernel)⟩, xIn 1154 (by decide +kernel) (by decide +kernel), xInS 50 53 (by decide +kernel) rfl, _, _, rfl⟩
theorem k_Mo_250 : xLkV RMo 250 m_Mo_fits 1 10 := ⟨⟨Or.inl (xIn 1164 (by decide +kernel) (by decide +kernel)), h_Mo_fits, (by decide +kernel), ⟨(by decide +kernel), (by decide +kernel)⟩, (by decide +kernel)⟩, xIn 1166 (by decide +kernel) (by decide +kernel), xInS 53 53 (by decide +kernel) rfl, _, _, rfl⟩
theorem k_Mo_180 : xLkV RMo 180 m_Mo_columns 0 10 := ⟨⟨Or.inl (xIn 1156 (by decide +kernel) (by decide +kernel)), h_Mo_columns, (by decide +kernel), ⟨(by decide +kernel), (by decide +kernel)⟩, (by decide +kernel)⟩, xIn 1158 (by decide +kernel) (by decide +kernel), xInS 51 53 (by decide +kernel) rfl, _, _, rfl⟩
theorem k_Mo_186 : xLkV RMo 186 m_Mo_rowsOf 1 10 := ⟨⟨Or.inl (xIn 1160 (by decide +kernel) (by decide +kernel)), h_Mo_rowsOf, (by decide +kernel), ⟨(by decide +kernel), (by decide +kernel)⟩, (by decide +kernel)⟩, xIn 1162 (by decide +kernel) (by decide +kernel), xInS 52 53 (by decide +kernel) rfl, _, _, rfl⟩
theorem k_Mo_276 : xLkV RMo 276 m_Mo_arrive 2 10 := ⟨⟨Or.inl (xIn 1172 (by decide +kernel) (by decide +kernel)), h_Mo_arrive, (by decide +kernel), ⟨(by decide +kernel), (by decide +kernel)⟩, (by decide +kernel)⟩, xIn 1174 (by decide +kernel) (by decide +kernel), xInS 54 53 (by decide +kernel) rfl, _, _, rfl⟩
theorem k_Mo_279 : xLkV RMo 279 m_Mo_leave 1 10 := ⟨⟨Or.inl (xIn 1180 (by decide +kernel) (by decide +kernel)), h_Mo_leave, (by decide +kernel), ⟨(by decide +kernel), (by decide +kernel)⟩, (by decide +kernel)⟩, xIn 1182 (by decide +kernel) (by decide +kernel), xInS 56 53 (by decide +kernel) rfl, _, _, rfl⟩
theorem gf_Mo_80 : xFd RMo 80 10 26 := ⟨_, _, _, cl_Mo, by decide, rfl, Or.inl (xIn 895 (by decide +kernel) (by decide +kernel))⟩
theorem gf_Mo_266 : xFd RMo 266 10 32 := ⟨_, _, _, cl_Mo, by decide, rfl, Or.inl (xIn 901 (by decide +kernel) (by decide +kernel))⟩
theorem pf_Mo_266 : xPd RMo 266 10 32 (.long) := ⟨_, _, _, cl_Mo, by decide, rfl, rfl, (by decide +kernel), Or.inl (xIn 901 (by decide +kernel) (by decide +kernel))⟩
theorem gf_Mo_263 : xFd RMo 263 10 27 := ⟨_, _, _, cl_Mo, by decide, rfl, Or.inl (xIn 896 (by decide +kernel) (by decide +kernel))⟩
theorem k_Mo_269 : xLkV RMo 269 m_Mo_store 2 10 := ⟨⟨Or.inl (xIn 1176 (by decide +kernel) (by decide +kernel)), h_Mo_store, (by decide +kernel), ⟨(by decide +kernel), (by decide +kernel)⟩, (by decide +kernel)⟩, xIn 1178 (by decide +kernel) (by decide +kernel), xInS 55 53 (by decide +kernel) rfl, _, _, rfl⟩
theorem gf_Mo_273 : xFd RMo 273 10 33 := ⟨_, _, _, cl_Mo, by decide, rfl, Or.inl (xIn 902 (by decide +kernel) (by decide +kernel))⟩
theorem pf_Mo_273 : xPd RMo 273 10 33 (.long) := ⟨_, _, _, cl_Mo, by decide, rfl, rfl, (by decide +kernel), Or.inl (xIn 902 (by decide +kernel) (by decide +kernel))⟩
theorem gf_Mo_83 : xFd RMo 83 10 28 := ⟨_, _, _, cl_Mo, by decide, rfl, Or.inl (xIn 897 (by decide +kernel) (by decide +kernel))⟩
theorem gf_Mo_86 : xFd RMo 86 10 29 := ⟨_, _, _, cl_Mo, by decide, rfl, Or.inl (xIn 898 (by decide +kernel) (by decide +kernel))⟩
theorem gf_Mo_89 : xFd RMo 89 10 30 := ⟨_, _, _, cl_Mo, by decide, rfl, Or.inl (xIn 899 (by decide +kernel) (by decide +kernel))⟩
theorem gf_Mo_92 : xFd RMo 92 10 31 := ⟨_, _, _, cl_Mo, by decide, rfl, Or.inl (xIn 900 (by decide +kernel) (by decide +kernel))⟩
theorem pf_Mo_263 : xPd RMo 263 10 27 (.int) := ⟨_, _, _, cl_Mo, by decide, rfl, rfl, (by decide +kernel), Or.inl (xIn 896 (by decide +kernel) (by decide +kernel))⟩
theorem gf_Mo_282 : xFd RMo 282 10 34 := ⟨_, _, _, cl_Mo, by decide, rfl, Or.inl (xIn 903 (by decide +kernel) (by decide +kernel))⟩
theorem pf_Mo_282 : xPd RMo 282 10 34 (.long) := ⟨_, _, _, cl_Mo, by decide, rfl, rfl, (by decide +kernel), Or.inl (xIn 903 (by decide +kernel) (by decide +kernel))⟩
theorem k_Mo_285 : xLkV RMo 285 m_Mo_isOffcut 1 10 := ⟨⟨Or.inl (xIn 1204 (by decide +kernel) (by decide +kernel)), h_Mo_isOffcut, (by decide +kernel), ⟨(by decide +kernel), (by decide +kernel)⟩, (by decide +kernel)⟩, xIn 1206 (by decide +kernel) (by decide +kernel), xInS 57 53 (by decide +kernel) rfl, _, _, rfl⟩
theorem k_Mo_288 : xLkV RMo 288 m_Mo_moveOffcut 2 10 := ⟨⟨Or.inl (xIn 1208 (by decide +kernel) (by decide +kernel)), h_Mo_moveOffcut, (by decide +kernel), ⟨(by decide +kernel), (by decide +kernel)⟩, (by decide +kernel)⟩, xIn 1210 (by decide +kernel) (by decide +kernel), xInS 58 53 (by decide +kernel) rfl, _, _, rfl⟩
theorem nw_Lw_8 : .classLink RLw 8 RHa ∈ xWS := xIn 20 (by decide +kernel) (by decide +kernel)
theorem k_Lw_65 : xLkI RLw 65 m_Ha_init 0 := ⟨⟨Or.inl (xIn 22 (by decide +kernel) (by decide +kernel)), h_Ha_init, (by decide +kernel), ⟨(by decide +kernel), (by decide +kernel)⟩, (by decide +kernel)⟩, xIn 23 (by decide +kernel) (by decide +kernel), rfl, xIn 24 (by decide +kernel) (by decide +kernel)⟩
theorem nw_Lw_66 : .classLink RLw 66 RMo ∈ xWS := xIn 863 (by decide +kernel) (by decide +kernel)
theorem k_Lw_68 : xLkI RLw 68 m_Mo_init 0 := ⟨⟨Or.inl (xIn 865 (by decide +kernel) (by decide +kernel)), h_Mo_init, (by decide +kernel), ⟨(by decide +kernel), (by decide +kernel)⟩, (by decide +kernel)⟩, xIn 866 (by decide +kernel) (by decide +kernel), rfl, xIn 867 (by decide +kernel) (by decide +kernel)⟩
theorem k_Lw_69 : xLkS RLw 69 m_Lw_sheet 4 := ⟨⟨Or.inl (xIn 338 (by decide +kernel) (by decide +kernel)), h_Lw_sheet, (by decide +kernel), ⟨(by decide +kernel), (by decide +kernel)⟩, (by decide +kernel)⟩, xIn 339 (by decide +kernel) (by decide +kernel), ni_Lw⟩
theorem k_Lw_74 : xLkV RLw 74 m_Mo_sheet 2 10 := ⟨⟨Or.inl (xIn 1034 (by decide +kernel) (by decide +kernel)), h_Mo_sheet, (by decide +kernel), ⟨(by decide +kernel), (by decide +kernel)⟩, (by decide +kernel)⟩, xIn 1035 (by decide +kernel) (by decide +kernel), xIn 1036 (by decide +kernel) (by decide +kernel), _, _, rfl⟩
theorem k_Lw_75 : xLkV RLw 75 m_Mo_thrown 0 10 := ⟨⟨Or.inl (xIn 1030 (by decide +kernel) (by decide +kernel)), h_Mo_thrown, (by decide +kernel), ⟨(by decide +kernel), (by decide +kernel)⟩, (by decide +kernel)⟩, xIn 1031 (by decide +kernel) (by decide +kernel), xIn 1032 (by decide +kernel) (by decide +kernel), _, _, rfl⟩
theorem k_Lw_79 : xLkS RLw 79 m_Lw_flaw 7 := ⟨⟨Or.inl (xIn 441 (by decide +kernel) (by decide +kernel)), h_Lw_flaw, (by decide +kernel), ⟨(by decide +kernel), (by decide +kernel)⟩, (by decide +kernel)⟩, xIn 442 (by decide +kernel) (by decide +kernel), ni_Lw⟩
theorem k_Lw_82 : xLkV RLw 82 m_Mo_flaw 5 10 := ⟨⟨Or.inl (xIn 1049 (by decide +kernel) (by decide +kernel)), h_Mo_flaw, (by decide +kernel), ⟨(by decide +kernel), (by decide +kernel)⟩, (by decide +kernel)⟩, xIn 1050 (by decide +kernel) (by decide +kernel), xIn 1051 (by decide +kernel) (by decide +kernel), _, _, rfl⟩
theorem k_Lw_83 : xLkS RLw 83 m_Lw_order 6 := ⟨⟨Or.inl (xIn 475 (by decide +kernel) (by decide +kernel)), h_Lw_order, (by decide +kernel), ⟨(by decide +kernel), (by decide +kernel)⟩, (by decide +kernel)⟩, xIn 476 (by decide +kernel) (by decide +kernel), ni_Lw⟩
theorem k_Lw_86 : xLkV RLw 86 m_Mo_order 4 10 := ⟨⟨Or.inl (xIn 1061 (by decide +kernel) (by decide +kernel)), h_Mo_order, (by decide +kernel), ⟨(by decide +kernel), (by decide +kernel)⟩, (by decide +kernel)⟩, xIn 1062 (by decide +kernel) (by decide +kernel), xIn 1063 (by decide +kernel) (by decide +kernel), _, _, rfl⟩
theorem k_Lw_87 : xLkS RLw 87 m_Lw_plan 3 := ⟨⟨Or.inl (xIn 527 (by decide +kernel) (by decide +kernel)), h_Lw_plan, (by decide +kernel), ⟨(by decide +kernel), (by decide +kernel)⟩, (by decide +kernel)⟩, xIn 528 (by decide +kernel) (by decide +kernel), ni_Lw⟩
theorem k_Lw_90 : xLkV RLw 90 m_Mo_plan 1 10 := ⟨⟨Or.inl (xIn 1065 (by decide +kernel) (by decide +kernel)), h_Mo_plan, (by decide +kernel), ⟨(by decide +kernel), (by decide +kernel)⟩, (by decide +kernel)⟩, xIn 1066 (by decide +kernel) (by decide +kernel), xIn 1067 (by decide +kernel) (by decide +kernel), _, _, rfl⟩
theorem k_Lw_91 : xLkS RLw 91 m_Lw_exact 6 := ⟨⟨Or.inl (xIn 640 (by decide +kernel) (by decide +kernel)), h_Lw_exact, (by decide +kernel), ⟨(by decide +kernel), (by decide +kernel)⟩, (by decide +kernel)⟩, xIn 641 (by decide +kernel) (by decide +kernel), ni_Lw⟩
theorem k_Lw_94 : xLkV RLw 94 m_Mo_exact 4 10 := ⟨⟨Or.inl (xIn 1136 (by decide +kernel) (by decide +kernel)), h_Mo_exact, (by decide +kernel), ⟨(by decide +kernel), (by decide +kernel)⟩, (by decide +kernel)⟩, xIn 1137 (by decide +kernel) (by decide +kernel), xIn 1138 (by decide +kernel) (by decide +kernel), _, _, rfl⟩
theorem k_Lw_95 : xLkS RLw 95 m_Lw_node 5 := ⟨⟨Or.inl (xIn 699 (by decide +kernel) (by decide +kernel)), h_Lw_node, (by decide +kernel), ⟨(by decide +kernel), (by decide +kernel)⟩, (by decide +kernel)⟩, xIn 700 (by decide +kernel) (by decide +kernel), ni_Lw⟩
theorem k_Lw_98 : xLkV RLw 98 m_Mo_node 3 10 := ⟨⟨Or.inl (xIn 1196 (by decide +kernel) (by decide +kernel)), h_Mo_node, (by decide +kernel), ⟨(by decide +kernel), (by decide +kernel)⟩, (by decide +kernel)⟩, xIn 1197 (by decide +kernel) (by decide +kernel), xIn 1198 (by decide +kernel) (by decide +kernel), _, _, rfl⟩
theorem k_Lw_99 : xLkS RLw 99 m_Lw_nodes 3 := ⟨⟨Or.inl (xIn 738 (by decide +kernel) (by decide +kernel)), h_Lw_nodes, (by decide +kernel), ⟨(by decide +kernel), (by decide +kernel)⟩, (by decide +kernel)⟩, xIn 739 (by decide +kernel) (by decide +kernel), ni_Lw⟩
theorem k_Lw_101 : xLkV RLw 101 m_Mo_nodes 1 10 := ⟨⟨Or.inl (xIn 1192 (by decide +kernel) (by decide +kernel)), h_Mo_nodes, (by decide +kernel), ⟨(by decide +kernel), (by decide +kernel)⟩, (by decide +kernel)⟩, xIn 1193 (by decide +kernel) (by decide +kernel), xIn 1194 (by decide +kernel) (by decide +kernel), _, _, rfl⟩
theorem k_Lw_102 : xLkS RLw 102 m_Lw_score 3 := ⟨⟨Or.inl (xIn 745 (by decide +kernel) (by decide +kernel)), h_Lw_score, (by decide +kernel), ⟨(by decide +kernel), (by decide +kernel)⟩, (by decide +kernel)⟩, xIn 746 (by decide +kernel) (by decide +kernel), ni_Lw⟩
theorem k_Lw_104 : xLkV RLw 104 m_Mo_score 1 10 := ⟨⟨Or.inl (xIn 1168 (by decide +kernel) (by decide +kernel)), h_Mo_score, (by decide +kernel), ⟨(by decide +kernel), (by decide +kernel)⟩, (by decide +kernel)⟩, xIn 1169 (by decide +kernel) (by decide +kernel), xIn 1170 (by decide +kernel) (by decide +kernel), _, _, rfl⟩
theorem k_Lw_105 : xLkS RLw 105 m_Lw_broke 4 := ⟨⟨Or.inl (xIn 789 (by decide +kernel) (by decide +kernel)), h_Lw_broke, (by decide +kernel), ⟨(by decide +kernel), (by decide +kernel)⟩, (by decide +kernel)⟩, xIn 790 (by decide +kernel) (by decide +kernel), ni_Lw⟩
theorem k_Lw_107 : xLkV RLw 107 m_Mo_broke 2 10 := ⟨⟨Or.inl (xIn 1184 (by decide +kernel) (by decide +kernel)), h_Mo_broke, (by decide +kernel), ⟨(by decide +kernel), (by decide +kernel)⟩, (by decide +kernel)⟩, xIn 1185 (by decide +kernel) (by decide +kernel), xIn 1186 (by decide +kernel) (by decide +kernel), _, _, rfl⟩
theorem k_Lw_108 : xLkS RLw 108 m_Lw_cancel 3 := ⟨⟨Or.inl (xIn 813 (by decide +kernel) (by decide +kernel)), h_Lw_cancel, (by decide +kernel), ⟨(by decide +kernel), (by decide +kernel)⟩, (by decide +kernel)⟩, xIn 814 (by decide +kernel) (by decide +kernel), ni_Lw⟩
theorem k_Lw_110 : xLkV RLw 110 m_Mo_cancel 1 10 := ⟨⟨Or.inl (xIn 1188 (by decide +kernel) (by decide +kernel)), h_Mo_cancel, (by decide +kernel), ⟨(by decide +kernel), (by decide +kernel)⟩, (by decide +kernel)⟩, xIn 1189 (by decide +kernel) (by decide +kernel), xIn 1190 (by decide +kernel) (by decide +kernel), _, _, rfl⟩
theorem k_Lw_111 : xLkS RLw 111 m_Lw_use 3 := ⟨⟨Or.inl (xIn 820 (by decide +kernel) (by decide +kernel)), h_Lw_use, (by decide +kernel), ⟨(by decide +kernel), (by decide +kernel)⟩, (by decide +kernel)⟩, xIn 821 (by decide +kernel) (by decide +kernel), ni_Lw⟩
theorem k_Lw_113 : xLkV RLw 113 m_Mo_use 1 10 := ⟨⟨Or.inl (xIn 1200 (by decide +kernel) (by decide +kernel)), h_Mo_use, (by decide +kernel), ⟨(by decide +kernel), (by decide +kernel)⟩, (by decide +kernel)⟩, xIn 1201 (by decide +kernel) (by decide +kernel), xIn 1202 (by decide +kernel) (by decide +kernel), _, _, rfl⟩
theorem k_Lw_114 : xLkS RLw 114 m_Lw_rack 4 := ⟨⟨Or.inl (xIn 841 (by decide +kernel) (by decide +kernel)), h_Lw_rack, (by decide +kernel), ⟨(by decide +kernel), (by decide +kernel)⟩, (by decide +kernel)⟩, xIn 842 (by decide +kernel) (by decide +kernel), ni_Lw⟩
theorem k_Lw_116 : xLkV RLw 116 m_Mo_rack 2 10 := ⟨⟨Or.inl (xIn 1212 (by decide +kernel) (by decide +kernel)), h_Mo_rack, (by decide +kernel), ⟨(by decide +kernel), (by decide +kernel)⟩, (by decide +kernel)⟩, xIn 1213 (by decide +kernel) (by decide +kernel), xIn 1214 (by decide +kernel) (by decide +kernel), _, _, rfl⟩
theorem k_Lw_117 : xLkV RLw 117 m_Ha_fit 2 9 := ⟨⟨Or.inl (xIn 289 (by decide +kernel) (by decide +kernel)), h_Ha_fit, (by decide +kernel), ⟨(by decide +kernel), (by decide +kernel)⟩, (by decide +kernel)⟩, xIn 290 (by decide +kernel) (by decide +kernel), xIn 291 (by decide +kernel) (by decide +kernel), _, _, rfl⟩
theorem k_Lw_120 : xLkV RLw 120 m_Mo_fit 2 10 := ⟨⟨Or.inl (xIn 1216 (by decide +kernel) (by decide +kernel)), h_Mo_fit, (by decide +kernel), ⟨(by decide +kernel), (by decide +kernel)⟩, (by decide +kernel)⟩, xIn 1217 (by decide +kernel) (by decide +kernel), xIn 1218 (by decide +kernel) (by decide +kernel), _, _, rfl⟩
theorem k_Lw_121 : xLkS RLw 121 m_Lw_flawed 5 := ⟨⟨Or.inl (xIn 848 (by decide +kernel) (by decide +kernel)), h_Lw_flawed, (by decide +kernel), ⟨(by decide +kernel), (by decide +kernel)⟩, (by decide +kernel)⟩, xIn 849 (by decide +kernel) (by decide +kernel), ni_Lw⟩
theorem k_Lw_123 : xLkV RLw 123 m_Mo_flawed 3 10 := ⟨⟨Or.inl (xIn 1220 (by decide +kernel) (by decide +kernel)), h_Mo_flawed, (by decide +kernel), ⟨(by decide +kernel), (by decide +kernel)⟩, (by decide +kernel)⟩, xIn 1221 (by decide +kernel) (by decide +kernel), xIn 1222 (by decide +kernel) (by decide +kernel), _, _, rfl⟩
theorem k_Lw_124 : xLkS RLw 124 m_Lw_panes 4 := ⟨⟨Or.inl (xIn 855 (by decide +kernel) (by decide +kernel)), h_Lw_panes, (by decide +kernel), ⟨(by decide +kernel), (by decide +kernel)⟩, (by decide +kernel)⟩, xIn 856 (by decide +kernel) (by decide +kernel), ni_Lw⟩
theorem k_Lw_126 : xLkV RLw 126 m_Mo_panes 2 10 := ⟨⟨Or.inl (xIn 1224 (by decide +kernel) (by decide +kernel)), h_Mo_panes, (by decide +kernel), ⟨(by decide +kernel), (by decide +kernel)⟩, (by decide +kernel)⟩, xIn 1225 (by decide +kernel) (by decide +kernel), xIn 1226 (by decide +kernel) (by decide +kernel), _, _, rfl⟩
theorem k_Lw_127 : xLkV RLw 127 m_Ha_area 1 9 := ⟨⟨Or.inl (xIn 301 (by decide +kernel) (by decide +kernel)), h_Ha_area, (by decide +kernel), ⟨(by decide +kernel), (by decide +kernel)⟩, (by decide +kernel)⟩, xIn 302 (by decide +kernel) (by decide +kernel), xIn 303 (by decide +kernel) (by decide +kernel), _, _, rfl⟩
theorem k_Lw_131 : xLkV RLw 131 m_Mo_area 1 10 := ⟨⟨Or.inl (xIn 1228 (by decide +kernel) (by decide +kernel)), h_Mo_area, (by decide +kernel), ⟨(by decide +kernel), (by decide +kernel)⟩, (by decide +kernel)⟩, xIn 1229 (by decide +kernel) (by decide +kernel), xIn 1230 (by decide +kernel) (by decide +kernel), _, _, rfl⟩
theorem k_Lw_132 : xLkV RLw 132 m_Ha_total 1 9 := ⟨⟨Or.inl (xIn 330 (by decide +kernel) (by decide +kernel)), h_Ha_total, (by decide +kernel), ⟨(by decide +kernel), (by decide +kernel)⟩, (by decide +kernel)⟩, xIn 331 (by decide +kernel) (by decide +kernel), xIn 332 (by decide +kernel) (by decide +kernel), _, _, rfl⟩
theorem k_Lw_135 : xLkV RLw 135 m_Mo_total 1 10 := ⟨⟨Or.inl (xIn 1232 (by decide +kernel) (by decide +kernel)), h_Mo_total, (by decide +kernel), ⟨(by decide +kernel), (by decide +kernel)⟩, (by decide +kernel)⟩, xIn 1233 (by decide +kernel) (by decide +kernel), xIn 1234 (by decide +kernel) (by decide +kernel), _, _, rfl⟩
theorem tw_base : ∀ w ∈ Bundle.throwableAtoms, w ∈ xWS ∨ w ∈ xSW := by
  intro w hw
  simp only [Bundle.throwableAtoms, List.mem_cons, List.not_mem_nil, or_false] at hw
  rcases hw with rfl | rfl | rfl | rfl | rfl | rfl | rfl | rfl | rfl | rfl | rfl | rfl | rfl | rfl | rfl | rfl | rfl | rfl | rfl | rfl | rfl | rfl | rfl | rfl
  · exact Or.inl (xIn 11 (by decide +kernel) (by decide +kernel))
  · exact Or.inl (xIn 372 (by decide +kernel) (by decide +kernel))
  · exact Or.inl (xIn 381 (by decide +kernel) (by decide +kernel))
  · exact Or.inl (xIn 386 (by decide +kernel) (by decide +kernel))
  · exact Or.inl (xIn 389 (by decide +kernel) (by decide +kernel))
  · exact Or.inl (xIn 391 (by decide +kernel) (by decide +kernel))
  · exact Or.inl (xIn 373 (by decide +kernel) (by decide +kernel))
  · exact Or.inl (xIn 374 (by decide +kernel) (by decide +kernel))
  · exact Or.inl (xIn 26 (by decide +kernel) (by decide +kernel))
  · exact Or.inl (xIn 27 (by decide +kernel) (by decide +kernel))
  · exact Or.inl (xIn 375 (by decide +kernel) (by decide +kernel))
  · exact Or.inl (xIn 380 (by decide +kernel) (by decide +kernel))
  · exact Or.inl (xIn 387 (by decide +kernel) (by decide +kernel))
  · exact Or.inl (xIn 403 (by decide +kernel) (by decide +kernel))
  · exact Or.inl (xIn 362 (by decide +kernel) (by decide +kernel))
  · exact Or.inl (xIn 404 (by decide +kernel) (by decide +kernel))
  · exact Or.inl (xIn 364 (by decide +kernel) (by decide +kernel))
  · exact Or.inl (xIn 405 (by decide +kernel) (by decide +kernel))
  · exact Or.inl (xIn 366 (by decide +kernel) (by decide +kernel))
  · exact Or.inl (xIn 376 (by decide +kernel) (by decide +kernel))
  · exact Or.inr (by simp [xSW])
  · exact Or.inl (xIn 378 (by decide +kernel) (by decide +kernel))
  · exact Or.inr (by simp [xSW])
  · exact Or.inl (xIn 368 (by decide +kernel) (by decide +kernel))
theorem xTn_of {own E : String} {ik ic ci : Nat} (names : List String) (hcl : xcl[ci]? = some (E, T0, 0)) (hE : Bundle.fit E = true) (hn : ∀ n ∈ names, Bundle.fit n = true) (hl : names.length ≤ 4) (hk : .classLink own ik E ∈ xWS) (hi : .initialized E ∈ xWS) (hm : .methodLink own ic (Bundle.init0 E) ∈ xWS) (hch : ∀ w ∈ Bundle.chain0Atoms E names, w ∈ xWS)
    (hr : ∀ w ∈ [Cond.instantiable E 6, .castable E E, .selects E Bundle.tFill0 Bundle.tFill0, .selects E Bundle.tFill Bundle.tFill, .lays E Bundle.tN "cause" "Ljava/lang/Throwable;", .lays E Bundle.tN "stackTrace" Bundle.steD, .lays E Bundle.tN "suppressedExceptions" Bundle.listD, .lays E Bundle.tN "detailMessage" "Ljava/lang/String;", .fieldLink Bundle.tN 198 Bundle.tN "backtrace" "Ljava/lang/Object;", .lays Bundle.tN Bundle.tN "backtrace" "Ljava/lang/Object;", .lays E Bundle.tN "backtrace" "Ljava/lang/Object;"], w ∈ xWS) : xTn own ik ic ci := by
  refine ⟨E, names, T0, hcl, hE, hn, hl, hk, hi, fun w hw => ?_⟩
  simp only [Bundle.ownAtoms0, List.mem_append, List.mem_cons, List.not_mem_nil, or_false] at hw
  rcases hw with (hw | hw) | rfl | rfl | rfl | rfl | rfl | rfl | rfl | rfl | rfl | rfl | rfl | rfl | rfl | rfl
  · exact tw_base w hw
  · exact Or.inl (hch w hw)
  · exact Or.inl hm
  · exact Or.inl (hr _ (by simp))
  · exact Or.inl (hr _ (by simp))
  · exact Or.inl (hr _ (by simp))
  · exact Or.inl (hr _ (by simp))
  · exact Or.inl (hr _ (by simp))
  · exact Or.inl (hr _ (by simp))
  · exact Or.inl (hr _ (by simp))
  · exact Or.inl (hr _ (by simp))
  · exact Or.inr (by simp [xSW])
  · exact Or.inr (by simp [xSW])
  · exact Or.inl (hr _ (by simp))
  · exact Or.inl (hr _ (by simp))
  · exact Or.inl (hr _ (by simp))
theorem te_Nse {own : String} {ik ic : Nat} (hk : .classLink own ik RNse ∈ xWS) (hm : .methodLink own ic (Bundle.init0 RNse) ∈ xWS) : xTn own ik ic 11 :=
  xTn_of ["java/lang/RuntimeException", "java/lang/Exception"] rfl (by decide +kernel) (by decide +kernel) (by decide) hk ni_Nse hm (xSub _ [463, 464, 465, 396, 353, 396, 397, 398, 399, 355, 399, 400, 401, 373, 357] (by decide +kernel) (by decide +kernel)) (xSub _ [454, 455, 456, 385, 457, 458, 459, 460, 371, 370, 461] (by decide +kernel) (by decide +kernel))
theorem te_Iae {own : String} {ik ic : Nat} (hk : .classLink own ik RIae ∈ xWS) (hm : .methodLink own ic (Bundle.init0 RIae) ∈ xWS) : xTn own ik ic 12 :=
  xTn_of ["java/lang/RuntimeException", "java/lang/Exception"] rfl (by decide +kernel) (by decide +kernel) (by decide) hk ni_Iae hm (xSub _ [393, 394, 395, 396, 353, 396, 397, 398, 399, 355, 399, 400, 401, 373, 357] (by decide +kernel) (by decide +kernel)) (xSub _ [351, 352, 359, 360, 361, 363, 365, 367, 371, 370, 369] (by decide +kernel) (by decide +kernel))
theorem te_Ise {own : String} {ik ic : Nat} (hk : .classLink own ik RIse ∈ xWS) (hm : .methodLink own ic (Bundle.init0 RIse) ∈ xWS) : xTn own ik ic 13 :=
  xTn_of ["java/lang/RuntimeException", "java/lang/Exception"] rfl (by decide +kernel) (by decide +kernel) (by decide) hk ni_Ise hm (xSub _ [428, 429, 430, 396, 353, 396, 397, 398, 399, 355, 399, 400, 401, 373, 357] (by decide +kernel) (by decide +kernel)) (xSub _ [419, 420, 421, 383, 422, 423, 424, 425, 371, 370, 426] (by decide +kernel) (by decide +kernel))
theorem te_Ioo {own : String} {ik ic : Nat} (hk : .classLink own ik RIoo ∈ xWS) (hm : .methodLink own ic (Bundle.init0 RIoo) ∈ xWS) : xTn own ik ic 14 :=
  xTn_of ["java/lang/RuntimeException", "java/lang/Exception"] rfl (by decide +kernel) (by decide +kernel) (by decide) hk ni_Ioo hm (xSub _ [725, 726, 727, 396, 353, 396, 397, 398, 399, 355, 399, 400, 401, 373, 357] (by decide +kernel) (by decide +kernel)) (xSub _ [716, 717, 718, 384, 719, 720, 721, 722, 371, 370, 723] (by decide +kernel) (by decide +kernel))
end
