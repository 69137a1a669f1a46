section
-- ===== PART A: goes FIRST, ahead of the names: the tables' words, and 'selects' of the private methods out of them =====
/-- a private method of a class that the tables say can be made, by its rows of tables_1 -/
def lw_okq (q : MethodName × Nat) : Prop := (q.1.cls ≠ "java/lang/invoke/MethodHandle" ∧ q.1.cls ≠ "java/lang/invoke/VarHandle") ∧ Cond.instantiable q.1.cls q.2 ∈ tables_1 ∧ Cond.privateMethod q.1 ∈ tables_1 ∧ Cond.instanceMethod q.1 ∈ tables_1
theorem lw_p0 : lw_okq (⟨"RelationRows", "needThing", "(I)V"⟩, 14) := ⟨⟨by decide +kernel, by decide +kernel⟩, List.mem_of_getElem? (i := 19) (by decide +kernel), List.mem_of_getElem? (i := 99) (by decide +kernel), List.mem_of_getElem? (i := 100) (by decide +kernel)⟩
theorem lw_p1 : lw_okq (⟨"RelationRows", "isThing", "(I)Z"⟩, 14) := ⟨⟨by decide +kernel, by decide +kernel⟩, List.mem_of_getElem? (i := 19) (by decide +kernel), List.mem_of_getElem? (i := 103) (by decide +kernel), List.mem_of_getElem? (i := 104) (by decide +kernel)⟩
theorem lw_p2 : lw_okq (⟨"java/lang/Throwable", "fillInStackTrace", "(I)Ljava/lang/Throwable;"⟩, 6) := ⟨⟨by decide +kernel, by decide +kernel⟩, List.mem_of_getElem? (i := 146) (by decide +kernel), List.mem_of_getElem? (i := 144) (by decide +kernel), List.mem_of_getElem? (i := 145) (by decide +kernel)⟩
theorem lw_p3 : lw_okq (⟨"RelationRows", "needKindOrNone", "(I)V"⟩, 14) := ⟨⟨by decide +kernel, by decide +kernel⟩, List.mem_of_getElem? (i := 19) (by decide +kernel), List.mem_of_getElem? (i := 201) (by decide +kernel), List.mem_of_getElem? (i := 202) (by decide +kernel)⟩
theorem lw_p4 : lw_okq (⟨"RelationRows", "needRoomForRelation", "()V"⟩, 14) := ⟨⟨by decide +kernel, by decide +kernel⟩, List.mem_of_getElem? (i := 19) (by decide +kernel), List.mem_of_getElem? (i := 206) (by decide +kernel), List.mem_of_getElem? (i := 207) (by decide +kernel)⟩
theorem lw_p5 : lw_okq (⟨"RelationRows", "addRelation", "(III)I"⟩, 14) := ⟨⟨by decide +kernel, by decide +kernel⟩, List.mem_of_getElem? (i := 19) (by decide +kernel), List.mem_of_getElem? (i := 211) (by decide +kernel), List.mem_of_getElem? (i := 212) (by decide +kernel)⟩
theorem lw_p6 : lw_okq (⟨"RelationRows", "startRows", "(I)V"⟩, 14) := ⟨⟨by decide +kernel, by decide +kernel⟩, List.mem_of_getElem? (i := 19) (by decide +kernel), List.mem_of_getElem? (i := 215) (by decide +kernel), List.mem_of_getElem? (i := 216) (by decide +kernel)⟩
theorem lw_p7 : lw_okq (⟨"RelationRows", "isOfKind", "(II)Z"⟩, 14) := ⟨⟨by decide +kernel, by decide +kernel⟩, List.mem_of_getElem? (i := 19) (by decide +kernel), List.mem_of_getElem? (i := 219) (by decide +kernel), List.mem_of_getElem? (i := 220) (by decide +kernel)⟩
theorem lw_p8 : lw_okq (⟨"RelationRows", "needRelation", "(I)V"⟩, 14) := ⟨⟨by decide +kernel, by decide +kernel⟩, List.mem_of_getElem? (i := 19) (by decide +kernel), List.mem_of_getElem? (i := 234) (by decide +kernel), List.mem_of_getElem? (i := 235) (by decide +kernel)⟩
theorem lw_p9 : lw_okq (⟨"RelationRows", "needSettable", "(III)V"⟩, 14) := ⟨⟨by decide +kernel, by decide +kernel⟩, List.mem_of_getElem? (i := 19) (by decide +kernel), List.mem_of_getElem? (i := 250) (by decide +kernel), List.mem_of_getElem? (i := 251) (by decide +kernel)⟩
theorem lw_p10 : lw_okq (⟨"RelationRows", "needForm", "(I)V"⟩, 14) := ⟨⟨by decide +kernel, by decide +kernel⟩, List.mem_of_getElem? (i := 19) (by decide +kernel), List.mem_of_getElem? (i := 254) (by decide +kernel), List.mem_of_getElem? (i := 255) (by decide +kernel)⟩
theorem lw_p11 : lw_okq (⟨"RelationRows", "isByCondition", "(I)Z"⟩, 14) := ⟨⟨by decide +kernel, by decide +kernel⟩, List.mem_of_getElem? (i := 19) (by decide +kernel), List.mem_of_getElem? (i := 258) (by decide +kernel), List.mem_of_getElem? (i := 259) (by decide +kernel)⟩
theorem lw_p12 : lw_okq (⟨"RelationRows", "holds", "(III)Z"⟩, 14) := ⟨⟨by decide +kernel, by decide +kernel⟩, List.mem_of_getElem? (i := 19) (by decide +kernel), List.mem_of_getElem? (i := 265) (by decide +kernel), List.mem_of_getElem? (i := 266) (by decide +kernel)⟩
theorem lw_p13 : lw_okq (⟨"RelationRows", "pushOut", "(III)V"⟩, 14) := ⟨⟨by decide +kernel, by decide +kernel⟩, List.mem_of_getElem? (i := 19) (by decide +kernel), List.mem_of_getElem? (i := 269) (by decide +kernel), List.mem_of_getElem? (i := 270) (by decide +kernel)⟩
theorem lw_p14 : lw_okq (⟨"RelationRows", "pushRow", "(II)V"⟩, 14) := ⟨⟨by decide +kernel, by decide +kernel⟩, List.mem_of_getElem? (i := 19) (by decide +kernel), List.mem_of_getElem? (i := 273) (by decide +kernel), List.mem_of_getElem? (i := 274) (by decide +kernel)⟩
theorem lw_p15 : lw_okq (⟨"RelationRows", "pushPair", "(III)V"⟩, 14) := ⟨⟨by decide +kernel, by decide +kernel⟩, List.mem_of_getElem? (i := 19) (by decide +kernel), List.mem_of_getElem? (i := 277) (by decide +kernel), List.mem_of_getElem? (i := 278) (by decide +kernel)⟩
def lw_privs_1 : List (MethodName × Nat) := [(⟨"RelationRows", "needThing", "(I)V"⟩, 14), (⟨"RelationRows", "isThing", "(I)Z"⟩, 14), (⟨"java/lang/Throwable", "fillInStackTrace", "(I)Ljava/lang/Throwable;"⟩, 6), (⟨"RelationRows", "needKindOrNone", "(I)V"⟩, 14), (⟨"RelationRows", "needRoomForRelation", "()V"⟩, 14), (⟨"RelationRows", "addRelation", "(III)I"⟩, 14), (⟨"RelationRows", "startRows", "(I)V"⟩, 14), (⟨"RelationRows", "isOfKind", "(II)Z"⟩, 14), (⟨"RelationRows", "needRelation", "(I)V"⟩, 14), (⟨"RelationRows", "needSettable", "(III)V"⟩, 14), (⟨"RelationRows", "needForm", "(I)V"⟩, 14), (⟨"RelationRows", "isByCondition", "(I)Z"⟩, 14), (⟨"RelationRows", "holds", "(III)Z"⟩, 14), (⟨"RelationRows", "pushOut", "(III)V"⟩, 14), (⟨"RelationRows", "pushRow", "(II)V"⟩, 14), (⟨"RelationRows", "pushPair", "(III)V"⟩, 14)]
theorem lw_r1 : ∀ q ∈ lw_privs_1, lw_okq q := List.forall_mem_cons.mpr ⟨lw_p0, List.forall_mem_cons.mpr ⟨lw_p1, List.forall_mem_cons.mpr ⟨lw_p2, List.forall_mem_cons.mpr ⟨lw_p3, List.forall_mem_cons.mpr ⟨lw_p4, List.forall_mem_cons.mpr ⟨lw_p5, List.forall_mem_cons.mpr ⟨lw_p6, List.forall_mem_cons.mpr ⟨lw_p7, List.forall_mem_cons.mpr ⟨lw_p8, List.forall_mem_cons.mpr ⟨lw_p9, List.forall_mem_cons.mpr ⟨lw_p10, List.forall_mem_cons.mpr ⟨lw_p11, List.forall_mem_cons.mpr ⟨lw_p12, List.forall_mem_cons.mpr ⟨lw_p13, List.forall_mem_cons.mpr ⟨lw_p14, List.forall_mem_cons.mpr ⟨lw_p15, fun _ h => absurd h List.not_mem_nil⟩⟩⟩⟩⟩⟩⟩⟩⟩⟩⟩⟩⟩⟩⟩⟩
theorem lw_p16 : lw_okq (⟨"RelationRows", "part", "(III)V"⟩, 14) := ⟨⟨by decide +kernel, by decide +kernel⟩, List.mem_of_getElem? (i := 19) (by decide +kernel), List.mem_of_getElem? (i := 281) (by decide +kernel), List.mem_of_getElem? (i := 282) (by decide +kernel)⟩
theorem lw_p17 : lw_okq (⟨"RelationRows", "makeClass", "(IJ)V"⟩, 14) := ⟨⟨by decide +kernel, by decide +kernel⟩, List.mem_of_getElem? (i := 19) (by decide +kernel), List.mem_of_getElem? (i := 286) (by decide +kernel), List.mem_of_getElem? (i := 287) (by decide +kernel)⟩
theorem lw_p18 : lw_okq (⟨"RelationRows", "goesBothWays", "(I)Z"⟩, 14) := ⟨⟨by decide +kernel, by decide +kernel⟩, List.mem_of_getElem? (i := 19) (by decide +kernel), List.mem_of_getElem? (i := 290) (by decide +kernel), List.mem_of_getElem? (i := 291) (by decide +kernel)⟩
theorem lw_p19 : lw_okq (⟨"RelationRows", "pushColumn", "(II)V"⟩, 14) := ⟨⟨by decide +kernel, by decide +kernel⟩, List.mem_of_getElem? (i := 19) (by decide +kernel), List.mem_of_getElem? (i := 294) (by decide +kernel), List.mem_of_getElem? (i := 295) (by decide +kernel)⟩
theorem lw_p20 : lw_okq (⟨"RelationRows", "join", "(III)V"⟩, 14) := ⟨⟨by decide +kernel, by decide +kernel⟩, List.mem_of_getElem? (i := 19) (by decide +kernel), List.mem_of_getElem? (i := 298) (by decide +kernel), List.mem_of_getElem? (i := 299) (by decide +kernel)⟩
theorem lw_p21 : lw_okq (⟨"RelationRows", "makeStale", "(I)V"⟩, 14) := ⟨⟨by decide +kernel, by decide +kernel⟩, List.mem_of_getElem? (i := 19) (by decide +kernel), List.mem_of_getElem? (i := 302) (by decide +kernel), List.mem_of_getElem? (i := 303) (by decide +kernel)⟩
theorem lw_p22 : lw_okq (⟨"RelationRows", "pairsOf", "(I)I"⟩, 14) := ⟨⟨by decide +kernel, by decide +kernel⟩, List.mem_of_getElem? (i := 19) (by decide +kernel), List.mem_of_getElem? (i := 320) (by decide +kernel), List.mem_of_getElem? (i := 321) (by decide +kernel)⟩
theorem lw_p23 : lw_okq (⟨"RelationRows", "settle", "(I)V"⟩, 14) := ⟨⟨by decide +kernel, by decide +kernel⟩, List.mem_of_getElem? (i := 19) (by decide +kernel), List.mem_of_getElem? (i := 362) (by decide +kernel), List.mem_of_getElem? (i := 363) (by decide +kernel)⟩
theorem lw_p24 : lw_okq (⟨"RelationRows", "workOut", "(I)V"⟩, 14) := ⟨⟨by decide +kernel, by decide +kernel⟩, List.mem_of_getElem? (i := 19) (by decide +kernel), List.mem_of_getElem? (i := 366) (by decide +kernel), List.mem_of_getElem? (i := 367) (by decide +kernel)⟩
theorem lw_p25 : lw_okq (⟨"RelationRows", "workOutFar", "(I)V"⟩, 14) := ⟨⟨by decide +kernel, by decide +kernel⟩, List.mem_of_getElem? (i := 19) (by decide +kernel), List.mem_of_getElem? (i := 370) (by decide +kernel), List.mem_of_getElem? (i := 371) (by decide +kernel)⟩
theorem lw_p26 : lw_okq (⟨"RelationRows", "rowBy", "(IIII)J"⟩, 14) := ⟨⟨by decide +kernel, by decide +kernel⟩, List.mem_of_getElem? (i := 19) (by decide +kernel), List.mem_of_getElem? (i := 377) (by decide +kernel), List.mem_of_getElem? (i := 378) (by decide +kernel)⟩
theorem lw_p27 : lw_okq (⟨"RelationRows", "column", "(II)J"⟩, 14) := ⟨⟨by decide +kernel, by decide +kernel⟩, List.mem_of_getElem? (i := 19) (by decide +kernel), List.mem_of_getElem? (i := 381) (by decide +kernel), List.mem_of_getElem? (i := 382) (by decide +kernel)⟩
theorem lw_p28 : lw_okq (⟨"RelationRows", "rowThrough", "(III)J"⟩, 14) := ⟨⟨by decide +kernel, by decide +kernel⟩, List.mem_of_getElem? (i := 19) (by decide +kernel), List.mem_of_getElem? (i := 385) (by decide +kernel), List.mem_of_getElem? (i := 386) (by decide +kernel)⟩
theorem lw_p29 : lw_okq (⟨"RelationRows", "pick", "(JI)I"⟩, 14) := ⟨⟨by decide +kernel, by decide +kernel⟩, List.mem_of_getElem? (i := 19) (by decide +kernel), List.mem_of_getElem? (i := 396) (by decide +kernel), List.mem_of_getElem? (i := 397) (by decide +kernel)⟩
theorem lw_p30 : lw_okq (⟨"RelationRows", "measureSteps", "(II)V"⟩, 14) := ⟨⟨by decide +kernel, by decide +kernel⟩, List.mem_of_getElem? (i := 19) (by decide +kernel), List.mem_of_getElem? (i := 429) (by decide +kernel), List.mem_of_getElem? (i := 430) (by decide +kernel)⟩
theorem lw_p31 : lw_okq (⟨"RelationRows", "stepNearer", "(II)I"⟩, 14) := ⟨⟨by decide +kernel, by decide +kernel⟩, List.mem_of_getElem? (i := 19) (by decide +kernel), List.mem_of_getElem? (i := 441) (by decide +kernel), List.mem_of_getElem? (i := 442) (by decide +kernel)⟩
def lw_privs_2 : List (MethodName × Nat) := [(⟨"RelationRows", "part", "(III)V"⟩, 14), (⟨"RelationRows", "makeClass", "(IJ)V"⟩, 14), (⟨"RelationRows", "goesBothWays", "(I)Z"⟩, 14), (⟨"RelationRows", "pushColumn", "(II)V"⟩, 14), (⟨"RelationRows", "join", "(III)V"⟩, 14), (⟨"RelationRows", "makeStale", "(I)V"⟩, 14), (⟨"RelationRows", "pairsOf", "(I)I"⟩, 14), (⟨"RelationRows", "settle", "(I)V"⟩, 14), (⟨"RelationRows", "workOut", "(I)V"⟩, 14), (⟨"RelationRows", "workOutFar", "(I)V"⟩, 14), (⟨"RelationRows", "rowBy", "(IIII)J"⟩, 14), (⟨"RelationRows", "column", "(II)J"⟩, 14), (⟨"RelationRows", "rowThrough", "(III)J"⟩, 14), (⟨"RelationRows", "pick", "(JI)I"⟩, 14), (⟨"RelationRows", "measureSteps", "(II)V"⟩, 14), (⟨"RelationRows", "stepNearer", "(II)I"⟩, 14)]
theorem lw_r2 : ∀ q ∈ lw_privs_2, lw_okq q := List.forall_mem_cons.mpr ⟨lw_p16, List.forall_mem_cons.mpr ⟨lw_p17, List.forall_mem_cons.mpr ⟨lw_p18, List.forall_mem_cons.mpr ⟨lw_p19, List.forall_mem_cons.mpr ⟨lw_p20, List.forall_mem_cons.mpr ⟨lw_p21, List.forall_mem_cons.mpr ⟨lw_p22, List.forall_mem_cons.mpr ⟨lw_p23, List.forall_mem_cons.mpr ⟨lw_p24, List.forall_mem_cons.mpr ⟨lw_p25, List.forall_mem_cons.mpr ⟨lw_p26, List.forall_mem_cons.mpr ⟨lw_p27, List.forall_mem_cons.mpr ⟨lw_p28, List.forall_mem_cons.mpr ⟨lw_p29, List.forall_mem_cons.mpr ⟨lw_p30, List.forall_mem_cons.mpr ⟨lw_p31, fun _ h => absurd h List.not_mem_nil⟩⟩⟩⟩⟩⟩⟩⟩⟩⟩⟩⟩⟩⟩⟩⟩
theorem lw_p32 : lw_okq (⟨"RelationRowsModel", "begin", "()V"⟩, 14) := ⟨⟨by decide +kernel, by decide +kernel⟩, List.mem_of_getElem? (i := 509) (by decide +kernel), List.mem_of_getElem? (i := 515) (by decide +kernel), List.mem_of_getElem? (i := 516) (by decide +kernel)⟩
theorem lw_p33 : lw_okq (⟨"RelationRowsModel", "isThing", "(I)Z"⟩, 14) := ⟨⟨by decide +kernel, by decide +kernel⟩, List.mem_of_getElem? (i := 509) (by decide +kernel), List.mem_of_getElem? (i := 575) (by decide +kernel), List.mem_of_getElem? (i := 576) (by decide +kernel)⟩
theorem lw_p34 : lw_okq (⟨"RelationRowsModel", "isGood", "(I)Z"⟩, 14) := ⟨⟨by decide +kernel, by decide +kernel⟩, List.mem_of_getElem? (i := 509) (by decide +kernel), List.mem_of_getElem? (i := 582) (by decide +kernel), List.mem_of_getElem? (i := 583) (by decide +kernel)⟩
theorem lw_p35 : lw_okq (⟨"RelationRowsModel", "make", "(III)I"⟩, 14) := ⟨⟨by decide +kernel, by decide +kernel⟩, List.mem_of_getElem? (i := 509) (by decide +kernel), List.mem_of_getElem? (i := 590) (by decide +kernel), List.mem_of_getElem? (i := 591) (by decide +kernel)⟩
theorem lw_p36 : lw_okq (⟨"RelationRowsModel", "isRelation", "(I)Z"⟩, 14) := ⟨⟨by decide +kernel, by decide +kernel⟩, List.mem_of_getElem? (i := 509) (by decide +kernel), List.mem_of_getElem? (i := 601) (by decide +kernel), List.mem_of_getElem? (i := 602) (by decide +kernel)⟩
theorem lw_p37 : lw_okq (⟨"RelationRowsModel", "whyNot", "(III)I"⟩, 14) := ⟨⟨by decide +kernel, by decide +kernel⟩, List.mem_of_getElem? (i := 509) (by decide +kernel), List.mem_of_getElem? (i := 609) (by decide +kernel), List.mem_of_getElem? (i := 610) (by decide +kernel)⟩
theorem lw_p38 : lw_okq (⟨"RelationRowsModel", "pushFrom", "(II)V"⟩, 14) := ⟨⟨by decide +kernel, by decide +kernel⟩, List.mem_of_getElem? (i := 509) (by decide +kernel), List.mem_of_getElem? (i := 616) (by decide +kernel), List.mem_of_getElem? (i := 617) (by decide +kernel)⟩
theorem lw_p39 : lw_okq (⟨"RelationRowsModel", "push", "(III)V"⟩, 14) := ⟨⟨by decide +kernel, by decide +kernel⟩, List.mem_of_getElem? (i := 509) (by decide +kernel), List.mem_of_getElem? (i := 620) (by decide +kernel), List.mem_of_getElem? (i := 621) (by decide +kernel)⟩
theorem lw_p40 : lw_okq (⟨"RelationRowsModel", "put", "(IIIZ)V"⟩, 14) := ⟨⟨by decide +kernel, by decide +kernel⟩, List.mem_of_getElem? (i := 509) (by decide +kernel), List.mem_of_getElem? (i := 624) (by decide +kernel), List.mem_of_getElem? (i := 625) (by decide +kernel)⟩
theorem lw_p41 : lw_okq (⟨"RelationRowsModel", "pushTo", "(II)V"⟩, 14) := ⟨⟨by decide +kernel, by decide +kernel⟩, List.mem_of_getElem? (i := 509) (by decide +kernel), List.mem_of_getElem? (i := 628) (by decide +kernel), List.mem_of_getElem? (i := 629) (by decide +kernel)⟩
theorem lw_p42 : lw_okq (⟨"RelationRowsModel", "join", "(III)V"⟩, 14) := ⟨⟨by decide +kernel, by decide +kernel⟩, List.mem_of_getElem? (i := 509) (by decide +kernel), List.mem_of_getElem? (i := 632) (by decide +kernel), List.mem_of_getElem? (i := 633) (by decide +kernel)⟩
theorem lw_p43 : lw_okq (⟨"RelationRowsModel", "part", "(II)V"⟩, 14) := ⟨⟨by decide +kernel, by decide +kernel⟩, List.mem_of_getElem? (i := 509) (by decide +kernel), List.mem_of_getElem? (i := 640) (by decide +kernel), List.mem_of_getElem? (i := 641) (by decide +kernel)⟩
theorem lw_p44 : lw_okq (⟨"RelationRowsModel", "countOf", "(I)I"⟩, 14) := ⟨⟨by decide +kernel, by decide +kernel⟩, List.mem_of_getElem? (i := 509) (by decide +kernel), List.mem_of_getElem? (i := 648) (by decide +kernel), List.mem_of_getElem? (i := 649) (by decide +kernel)⟩
theorem lw_p45 : lw_okq (⟨"RelationRowsModel", "learn", "(I)V"⟩, 14) := ⟨⟨by decide +kernel, by decide +kernel⟩, List.mem_of_getElem? (i := 509) (by decide +kernel), List.mem_of_getElem? (i := 660) (by decide +kernel), List.mem_of_getElem? (i := 661) (by decide +kernel)⟩
theorem lw_p46 : lw_okq (⟨"RelationRowsModel", "work", "(I)V"⟩, 14) := ⟨⟨by decide +kernel, by decide +kernel⟩, List.mem_of_getElem? (i := 509) (by decide +kernel), List.mem_of_getElem? (i := 664) (by decide +kernel), List.mem_of_getElem? (i := 665) (by decide +kernel)⟩
theorem lw_p47 : lw_okq (⟨"RelationRowsModel", "far", "(I)V"⟩, 14) := ⟨⟨by decide +kernel, by decide +kernel⟩, List.mem_of_getElem? (i := 509) (by decide +kernel), List.mem_of_getElem? (i := 668) (by decide +kernel), List.mem_of_getElem? (i := 669) (by decide +kernel)⟩
def lw_privs_3 : List (MethodName × Nat) := [(⟨"RelationRowsModel", "begin", "()V"⟩, 14), (⟨"RelationRowsModel", "isThing", "(I)Z"⟩, 14), (⟨"RelationRowsModel", "isGood", "(I)Z"⟩, 14), (⟨"RelationRowsModel", "make", "(III)I"⟩, 14), (⟨"RelationRowsModel", "isRelation", "(I)Z"⟩, 14), (⟨"RelationRowsModel", "whyNot", "(III)I"⟩, 14), (⟨"RelationRowsModel", "pushFrom", "(II)V"⟩, 14), (⟨"RelationRowsModel", "push", "(III)V"⟩, 14), (⟨"RelationRowsModel", "put", "(IIIZ)V"⟩, 14), (⟨"RelationRowsModel", "pushTo", "(II)V"⟩, 14), (⟨"RelationRowsModel", "join", "(III)V"⟩, 14), (⟨"RelationRowsModel", "part", "(II)V"⟩, 14), (⟨"RelationRowsModel", "countOf", "(I)I"⟩, 14), (⟨"RelationRowsModel", "learn", "(I)V"⟩, 14), (⟨"RelationRowsModel", "work", "(I)V"⟩, 14), (⟨"RelationRowsModel", "far", "(I)V"⟩, 14)]
theorem lw_r3 : ∀ q ∈ lw_privs_3, lw_okq q := List.forall_mem_cons.mpr ⟨lw_p32, List.forall_mem_cons.mpr ⟨lw_p33, List.forall_mem_cons.mpr ⟨lw_p34, List.forall_mem_cons.mpr ⟨lw_p35, List.forall_mem_cons.mpr ⟨lw_p36, List.forall_mem_cons.mpr ⟨lw_p37, List.forall_mem_cons.mpr ⟨lw_p38, List.forall_mem_cons.mpr ⟨lw_p39, List.forall_mem_cons.mpr ⟨lw_p40, List.forall_mem_cons.mpr ⟨lw_p41, List.forall_mem_cons.mpr ⟨lw_p42, List.forall_mem_cons.mpr ⟨lw_p43, List.forall_mem_cons.mpr ⟨lw_p44, List.forall_mem_cons.mpr ⟨lw_p45, List.forall_mem_cons.mpr ⟨lw_p46, List.forall_mem_cons.mpr ⟨lw_p47, fun _ h => absurd h List.not_mem_nil⟩⟩⟩⟩⟩⟩⟩⟩⟩⟩⟩⟩⟩⟩⟩⟩
theorem lw_p48 : lw_okq (⟨"RelationRowsModel", "besideOr", "(IIIZ)I"⟩, 14) := ⟨⟨by decide +kernel, by decide +kernel⟩, List.mem_of_getElem? (i := 509) (by decide +kernel), List.mem_of_getElem? (i := 676) (by decide +kernel), List.mem_of_getElem? (i := 677) (by decide +kernel)⟩
theorem lw_p49 : lw_okq (⟨"RelationRowsModel", "beside", "(IIIZ)I"⟩, 14) := ⟨⟨by decide +kernel, by decide +kernel⟩, List.mem_of_getElem? (i := 509) (by decide +kernel), List.mem_of_getElem? (i := 680) (by decide +kernel), List.mem_of_getElem? (i := 681) (by decide +kernel)⟩
theorem lw_p50 : lw_okq (⟨"RelationRowsModel", "measure", "(II)V"⟩, 14) := ⟨⟨by decide +kernel, by decide +kernel⟩, List.mem_of_getElem? (i := 509) (by decide +kernel), List.mem_of_getElem? (i := 696) (by decide +kernel), List.mem_of_getElem? (i := 697) (by decide +kernel)⟩
def lw_privs_4 : List (MethodName × Nat) := [(⟨"RelationRowsModel", "besideOr", "(IIIZ)I"⟩, 14), (⟨"RelationRowsModel", "beside", "(IIIZ)I"⟩, 14), (⟨"RelationRowsModel", "measure", "(II)V"⟩, 14)]
theorem lw_r4 : ∀ q ∈ lw_privs_4, lw_okq q := List.forall_mem_cons.mpr ⟨lw_p48, List.forall_mem_cons.mpr ⟨lw_p49, List.forall_mem_cons.mpr ⟨lw_p50, fun _ h => absurd h List.not_mem_nil⟩⟩⟩
def lw_privs : List (MethodName × Nat) := lw_privs_1 ++ (lw_privs_2 ++ (lw_privs_3 ++ (lw_privs_4)))
def lw_tbl : List Cond := k2_sels lw_privs ++ tables_1
theorem lw_privs_ok : ∀ q ∈ lw_privs, lw_okq q := by
  show ∀ q ∈ lw_privs_1 ++ (lw_privs_2 ++ (lw_privs_3 ++ (lw_privs_4))), lw_okq q
  exact List.forall_mem_append.mpr ⟨lw_r1, List.forall_mem_append.mpr ⟨lw_r2, List.forall_mem_append.mpr ⟨lw_r3, lw_r4⟩⟩⟩
-- ===== end of PART A; then your names; then what follows =====
end
section
/-! ===== BEGIN words of one list among another's, by their places ===== -/
theorem goodIn_r {big : List Cond} (ws : List Cond) (ps : List Nat) (hp : ws = ps.filterMap (fun i => big[i]?)) (h : ws.all goodWord = true) : GoodIn big ws := by
  intro w hw
  have h1 := List.all_eq_true.mp h w hw
  rw [hp] at hw
  obtain ⟨i, -, hi⟩ := List.mem_filterMap.mp hw
  have hm : w ∈ big := by first | exact List.mem_of_getElem? hi | exact List.getElem?_mem hi
  exact ⟨hm, good_of_word h1⟩
theorem goodIn_app {big a b : List Cond} (ha : GoodIn big a) (hb : GoodIn big b) : GoodIn big (a ++ b) := fun w h => (List.mem_append.mp h).elim (ha w) (hb w)
theorem goodIn_ca {big a b : List Cond} {c : Cond} (ha : GoodIn big (c :: a)) (hb : GoodIn big b) : GoodIn big (c :: (a ++ b)) := fun w h => (List.mem_cons.mp h).elim (fun e => ha w (List.mem_cons.mpr (Or.inl e))) (fun h => (List.mem_append.mp h).elim (fun h => ha w (List.mem_cons.mpr (Or.inr h))) (hb w))
theorem goodIn_sub {big ws : List Cond} (hm : ∀ w ∈ ws, w ∈ big) (h : ws.all goodWord = true) : GoodIn big ws := fun w hw => ⟨hm w hw, good_of_word (List.all_eq_true.mp h w hw)⟩
/-! ===== END ===== -/

/-! ===== BEGIN new T[n][m]: the outer array a place, the inner ones among the pooled ===== -/
/-- f, but v at every address of l -/
def vr_up {α : Type} (f : Nat → α) (l : List Nat) (v : α) : Nat → α := fun a => if a ∈ l then v else f a
theorem vr_up_in {α : Type} {f : Nat → α} {l : List Nat} {v : α} {a : Nat} (h : a ∈ l) : vr_up f l v a = v := if_pos h
theorem vr_up_ne {α : Type} {f : Nat → α} {l : List Nat} {v : α} {a : Nat} (h : a ∉ l) : vr_up f l v a = f a := if_neg h
theorem vr_rows {L l : List Nat} {f : Nat → va_E} {e : va_E} (h : ∀ a, a ∈ l → a ∉ L) : va_pl L f ++ l.map (fun a => (a, e)) = va_pl (L ++ l) (vr_up f l e) := by
  unfold va_pl
  rw [List.map_append]
  congr 1
  · apply List.map_congr_left
    intro a ha
    rw [vr_up_ne (fun q => h a q ha)]
  · apply List.map_congr_left
    intro a ha
    rw [vr_up_in ha]
theorem vr_lay {X rows : va_W} {x : Nat × va_E} {pl : va_W} {D : va_G} {cl : List vw_C} {H : Heap} (hP : va_P D cl (((X ++ pl) ++ [x]) ++ rows) H) : va_P D cl ((X ++ [x]) ++ (pl ++ rows)) H := by
  rw [List.append_assoc (X ++ pl)] at hP
  have h := va_P.swap hP
  rw [← List.append_assoc X] at h
  have h2 := va_P.swap h
  rw [List.append_assoc (X ++ [x])] at h2
  exact h2
theorem vr_layD {X rows : va_W} {x : Nat × va_E} {pl : va_W} {A : Nat → Prop} (hD : va_D A (((X ++ pl) ++ [x]) ++ rows)) : va_D A ((X ++ [x]) ++ (pl ++ rows)) := by
  rw [List.append_assoc (X ++ pl)] at hD
  have h := va_D.swap hD
  rw [← List.append_assoc X] at h
  have h2 := va_D.swap h
  rw [List.append_assoc (X ++ [x])] at h2
  exact h2
theorem vr_outer (c : ClassId) (N h0 : Nat) : ∀ i : Nat, Jvm.Free.Multi.outerC c N h0 i = arrV c N (fun j => va_rf (if j < i then some (h0 + 1 + j) else none))
  | 0 => by
    show ({ cls := c, slots := Array.replicate N .null, vm := .none } : Cell) = _
    rw [arrV_new]
    refine congrArg (arrV c N) (funext fun j => ?_)
    simp [va_rf]
  | i + 1 => by
    show (Jvm.Free.Multi.outerC c N h0 i).setSlot i (.ref (h0 + 1 + i)) = _
    rw [vr_outer c N h0 i, arrV_store]
    refine congrArg (arrV c N) (funext fun j => ?_)
    by_cases e : j = i
    · subst e
      simp [updV, va_rf]
    · by_cases h : j < i
      · simp [updV, e, h, Nat.lt_succ_of_lt h]
      · simp [updV, e, h, show ¬ j < i + 1 by omega]
section VGM
variable {p : Program} {l : Launch} {e : Env} {R : Room} {s : State} {m : MethodId} {args : Array Value} {below : List Frame} {meth : Method} {c : Code} {H : Heap} {locs : List Loc} {cells slots : Nat} {Q : State → Prop}
variable {cc : ByteArray} {pc : Nat} {ls : Array Slot} {rest : List Value} {D : va_G} {cl : List vw_C} {A : Nat → Prop} {a : Nat} {tys : List (ClassId × FieldType)} {ws : va_W} {H0 : Heap}
theorem va_mna {X : va_W} {L : List Nat} {f : Nat → va_E} {cc : ByteArray} (hexec : p.tables.exec = Jvm.exec) (hb : c.code = cc) {own : String} {index : Nat} {ty : FieldType} {cy : ClassId} (hown : s.vm.findClass own = some m.cls) (hclink : (Cond.classLink own index ("[" ++ (FieldType.array ty).toString)).before args s = true) (hover : (Cond.arrayOver (.array ty)).before args s = true) (harr : (Cond.arrayClass ty).before args s = true) (hcy : s.vm.findClass (FieldType.array ty).toString = some cy)
    (hK : va_K D cl tys s) (hP : va_P D cl (X ++ va_pl L f) H) (hD : va_D A (X ++ va_pl L f)) (hS : va_S A H0 H locs) (hA : ∀ q, H0.size ≤ q → A q) {n k : Int32} {N' K' : Nat} {z : vp_A} (hn : ¬ n < 0) (hk : ¬ k < 0) (hN : n.toNatClampNeg = N') (hM : k.toNatClampNeg = K')
    (hb1 : N' * 4 ≤ 536870912) (hb2 : K' * componentBytes ty ≤ 536870912) (hb3 : K' ≤ 536870912) (hdf : fits ty (defaultValue ty) = true) (hdd : (defaultValue ty).isDefault = true) (hcells : cells + (1 + N') ≤ R.cells) (hslots : slots + (N' + N' * K') ≤ R.slots) (hz : ∀ c : ClassId, Jvm.Free.Multi.innerC c K' (defaultValue ty) = vp_cell c z) (hdg : decode cc pc = .ok (.multianewarray index 2, 4))
    (kk : ∀ (q : Nat) (r : Nat → Nat) (cA : ClassId) (H1 : Heap), (∀ i j : Nat, i < N' → j < N' → r i = r j → i = j) → (∀ i : Nat, i < N' → r i ∉ L) → va_K D cl (tys ++ [(cA, .array ty)]) s →
      va_P D cl ((X ++ [(q, .inl (cA, N', .inr (.inr (.inr (.inr (fun i => if i < N' then some (r i) else none))))))]) ++ va_pl (L ++ (List.range N').map r) (vr_up f ((List.range N').map r) (.inl (cy, z)))) H1 → va_D A ((X ++ [(q, .inl (cA, N', .inr (.inr (.inr (.inr (fun i => if i < N' then some (r i) else none))))))]) ++ va_pl (L ++ (List.range N').map r) (vr_up f ((List.range N').map r) (.inl (cy, z)))) → va_S A H0 H1 locs →
      W p l e R s m args below meth c H1 locs (cells + 1 + N') (slots + N' + N' * K') Q (F0 m (pc + 4) ls (.ref q :: rest))) : W p l e R s m args below meth c H locs cells slots Q (F0 m pc ls (.int k :: .int n :: rest)) := by
  subst hN
  subst hM
  intro T hT Xs
  obtain ⟨vm₁, cA, comp, -, fA, fC, hO, -, X', step⟩ := Xs.multianewarray2F hexec hown hclink hover harr (g := F0 m pc ls (.int k :: .int n :: rest)) rfl (by rw [hb]; exact hdg) rfl hn hk hb1 hb2 hb3 hdf hdd hcells hslots
  have ec : some cy = some comp := hcy.symm.trans fC
  cases ec
  generalize hF : Jvm.Free.Multi.fill (T.setVm vm₁) cA cy n.toNatClampNeg k.toNatClampNeg (defaultValue ty) n.toNatClampNeg = F at X' step
  have hTh : (T.setVm vm₁).heap = H := hT
  obtain ⟨f1, f2, -, -⟩ := Jvm.Free.Multi.fill_facts (T.setVm vm₁) cA cy n.toNatClampNeg k.toNatClampNeg (defaultValue ty) n.toNatClampNeg
  rw [hF, hTh] at f1 f2
  have hold : ∀ x : Nat, x < H.size → F.heap[x]? = H[x]? := fun x hx => by
    have := Jvm.Free.Multi.fill_old (T.setVm vm₁) cA cy n.toNatClampNeg k.toNatClampNeg (defaultValue ty) (a := x) (by rw [hTh]; exact hx) n.toNatClampNeg
    rw [hF, hTh] at this
    exact this
  have hrow : ∀ j : Nat, j < n.toNatClampNeg → F.heap[H.size + 1 + j]? = some (vp_cell cy z) := fun j hj => by
    have := Jvm.Free.Multi.fill_inner (T.setVm vm₁) cA cy n.toNatClampNeg k.toNatClampNeg (defaultValue ty) n.toNatClampNeg j hj
    rw [hF, hTh, hz] at this
    exact this
  have hout : Jvm.Free.Multi.outerC cA n.toNatClampNeg H.size n.toNatClampNeg = vp_cell cA (n.toNatClampNeg, .inr (.inr (.inr (.inr (fun i => if i < n.toNatClampNeg then some (H.size + 1 + i) else none))))) := by
    rw [vp_cell_q]
    exact vr_outer cA n.toNatClampNeg H.size n.toNatClampNeg
  rw [hout] at f2
  have hlt : ∀ a, a ∈ L → a < H.size := fun a ha => by
    obtain ⟨k9, hk9⟩ := va_pl_get (X := X) (f := f) ha
    exact (hP k9 _ hk9).lt
  have hnl : ∀ i : Nat, i < n.toNatClampNeg → H.size + 1 + i ∉ L := fun i _ h => by
    have := hlt _ h
    omega
  have hnm : ∀ a, a ∈ (List.range n.toNatClampNeg).map (fun i => H.size + 1 + i) → a ∉ L := fun a ha h => by
    obtain ⟨i, -, rfl⟩ := List.mem_map.mp ha
    have := hlt _ h
    omega
  have hP0 : va_P D cl (X ++ va_pl L f) F.heap := hP.kept (fun k9 x hx => hold x.1 ((hP k9 x hx).lt))
  have hP1 : va_P D cl ((X ++ va_pl L f) ++ [(H.size, .inl (cA, n.toNatClampNeg, .inr (.inr (.inr (.inr (fun i => if i < n.toNatClampNeg then some (H.size + 1 + i) else none))))))]) F.heap := hP0.app (fun k9 x hx => by
    have h0 : k9 < 1 := (List.getElem?_eq_some_iff.mp hx).1
    rw [show k9 = 0 by omega] at hx
    cases hx
    exact f2)
  have hP2 : va_P D cl (((X ++ va_pl L f) ++ [(H.size, .inl (cA, n.toNatClampNeg, .inr (.inr (.inr (.inr (fun i => if i < n.toNatClampNeg then some (H.size + 1 + i) else none))))))]) ++ ((List.range n.toNatClampNeg).map (fun i => H.size + 1 + i)).map (fun a => (a, .inl (cy, z)))) F.heap := hP1.app (fun k9 x hx => by
    obtain ⟨a, ha, rfl⟩ := List.mem_map.mp (List.mem_of_getElem? hx)
    obtain ⟨i, hi, rfl⟩ := List.mem_map.mp ha
    exact hrow i (List.mem_range.mp hi))
  have hD2 : va_D A (((X ++ va_pl L f) ++ [(H.size, .inl (cA, n.toNatClampNeg, .inr (.inr (.inr (.inr (fun i => if i < n.toNatClampNeg then some (H.size + 1 + i) else none))))))]) ++ ((List.range n.toNatClampNeg).map (fun i => H.size + 1 + i)).map (fun a => (a, .inl (cy, z)))) := by
    have hD1 := hD.push (e := .inl (cA, n.toNatClampNeg, .inr (.inr (.inr (.inr (fun i => if i < n.toNatClampNeg then some (H.size + 1 + i) else none)))))) hP rfl (hA _ hS.1)
    generalize hW1 : (X ++ va_pl L f) ++ [(H.size, .inl (cA, n.toNatClampNeg, .inr (.inr (.inr (.inr (fun i => if i < n.toNatClampNeg then some (H.size + 1 + i) else none))))))] = W1 at hD1 hP1 ⊢
    have hle : ∀ (k9 : Nat) (x : Nat × va_E), W1[k9]? = some x → x.1 ≤ H.size := fun k9 x hx => by
      rw [← hW1] at hx
      by_cases hl : k9 < (X ++ va_pl L f).length
      · rw [List.getElem?_append_left hl] at hx
        exact Nat.le_of_lt ((hP k9 x hx).lt)
      · rw [List.getElem?_append_right (by omega)] at hx
        have h0 : k9 - (X ++ va_pl L f).length < 1 := (List.getElem?_eq_some_iff.mp hx).1
        rw [show k9 - (X ++ va_pl L f).length = 0 by omega] at hx
        cases hx
        exact Nat.le_refl _
    have hr : ∀ (k9 : Nat) (x : Nat × va_E), (((List.range n.toNatClampNeg).map (fun i => H.size + 1 + i)).map (fun a => ((a, .inl (cy, z)) : Nat × va_E)))[k9]? = some x → x.1 = H.size + 1 + k9 := fun k9 x hx => by
      rw [List.getElem?_map, List.getElem?_map] at hx
      by_cases h9 : k9 < n.toNatClampNeg
      · rw [List.getElem?_range h9] at hx
        cases hx
        rfl
      · have hn0 : (List.range n.toNatClampNeg)[k9]? = none := List.getElem?_eq_none (by rw [List.length_range]; omega)
        rw [hn0] at hx
        cases hx
    refine ⟨fun i j x y hi hj hxy => ?_, fun k9 x hx => ?_⟩
    · by_cases h1 : i < W1.length <;> by_cases h2 : j < W1.length
      · rw [List.getElem?_append_left h1] at hi
        rw [List.getElem?_append_left h2] at hj
        exact hD1.1 i j x y hi hj hxy
      · rw [List.getElem?_append_left h1] at hi
        rw [List.getElem?_append_right (by omega)] at hj
        have := hle _ _ hi
        have := hr _ _ hj
        omega
      · rw [List.getElem?_append_right (by omega)] at hi
        rw [List.getElem?_append_left h2] at hj
        have := hle _ _ hj
        have := hr _ _ hi
        omega
      · rw [List.getElem?_append_right (by omega)] at hi hj
        have := hr _ _ hi
        have := hr _ _ hj
        omega
    · by_cases h1 : k9 < W1.length
      · rw [List.getElem?_append_left h1] at hx
        exact hD1.2 k9 x hx
      · rw [List.getElem?_append_right (by omega)] at hx
        have := hr _ _ hx
        exact hA _ (by have := hS.1; omega)
  have hAr : ArrOfT s cA (.array ty) := fun N9 z9 => by
    obtain ⟨-, k9, hk9, cm9, hkk9⟩ := (hO 0 0 0).1
    exact ⟨(fun q hq => by cases hq), k9, hk9, cm9, hkk9⟩
  have hK2 : va_K D cl (tys ++ [(cA, .array ty)]) s := ⟨hK.1, fun k9 x hx => by
    by_cases hl : k9 < tys.length
    · rw [List.getElem?_append_left hl] at hx
      exact hK.2 k9 x hx
    · rw [List.getElem?_append_right (by omega)] at hx
      have h0 : k9 - tys.length < 1 := (List.getElem?_eq_some_iff.mp hx).1
      rw [show k9 - tys.length = 0 by omega] at hx
      cases hx
      exact ⟨hAr, fA⟩⟩
  obtain ⟨t, a1, b1⟩ := kk H.size (fun i => H.size + 1 + i) cA F.heap (fun i j _ _ h => by have h9 : H.size + 1 + i = H.size + 1 + j := h; omega) hnl hK2 (by rw [← vr_rows hnm]; exact vr_lay hP2) (by rw [← vr_rows hnm]; exact vr_layD hD2) ⟨by rw [f1]; have := hS.1; omega, fun x h1 h2 => (hold x (Nat.lt_of_lt_of_le h1 hS.1)).trans (hS.2.1 x h1 h2), hS.2.2⟩ F rfl X'
  refine ⟨t, step t ?_, b1⟩
  have e : T.heap.size = H.size := by rw [hT]
  rw [e]
  exact a1
end VGM
/-! ===== END ===== -/

/-! ===== BEGIN exceptions that leave a method, and their catching by the caller (launches without stack traces) ===== -/
section VXA
/-! The laws vx_back, vx_callV, vx_callS, vx_callSW, vx_throw0, vx_throwS follow proofs of the library, with one case more: JvmDerived/Free/Laws.lean (Back.of_free), Shelf42/LK1.lean (callV, callS), Shelf/KitTraced.lean (throwNew0V, throwNewS). -/
/-- where a method has thrown q: the class by its name, the cell, what was written, the world -/
def vx_T (XC : String → State → State → Prop) (st : State) (q : Addr) (t : State) (mc ms : Nat) (free : Addr → Prop) : Prop :=
  ∃ (E : String) (ce : Cell) (L : List Loc), XC E st t ∧ t.heap[q]? = some ce ∧ ce.vm = .none ∧ st.vm.findClass E = some ce.cls ∧ st.WarmedH t.vm ∧ st.sameButNew ({ t with vm := st.vm } : State) L mc ms ∧ ∀ z ∈ L, free z.base
def vx_Q (Qc : Array Value → State → Outcome → State → Prop) (XC : String → State → State → Prop) (mc ms : Nat) (free : Addr → Prop) : Array Value → State → Outcome → State → Prop := fun a st o t =>
  (Qc a st o t ∧ ∃ L, FrameEnd st o t L mc ms ∧ ∀ q ∈ L, free q.base) ∨ ∃ q, o = .threw q ∧ vx_T XC st q t mc ms free
/-- a callee that returns or throws -/
def vx_Met (l : Launch) (y : MethodName) (ws : List Cond) (rm : Room) (Pc : Array Value → State → Prop) (Qc : Array Value → State → Outcome → State → Prop) (XC : String → State → State → Prop) (mc ms : Nat) (free : Addr → Prop) : Prop :=
  MetFree l y (headSpec ws rm) Pc (fun _ _ _ _ _ => True) (vx_Q Qc XC mc ms free)
def vx_Post (XC : String → State → State → Prop) (mc ms : Nat) (free : Addr → Prop) : Pt → Array Value → Addr → Pt → Prop := fun A a q B =>
  ∃ (g : JFrame) (mk : MethodId) (t : State) (L : List Loc) (E : String) (ce : Cell), B.U.heap = t.heap ∧ B.U.vm = t.vm ∧ XC E (A.U.calling g mk a) t ∧ t.heap[q]? = some ce ∧ ce.vm = .none ∧ A.U.vm.findClass E = some ce.cls ∧ B.locs = A.locs ++ L ∧ (∀ z ∈ L, free z.base) ∧ B.cells = A.cells + mc ∧ B.slots = A.slots + ms
def vx_Back (l : Launch) (R : Room) (p : Program) (e : Env) (below : List Frame) (s : State) (sargs : Array Value) (y : MethodName) (len W9 : Nat)
    (Pre : Pt → Array Value → Prop) (Post : Pt → Array Value → Option Value → Pt → Prop) (PostX : Pt → Array Value → Addr → Pt → Prop) : Prop :=
  ∀ (m : MethodId) (meth : Method) (c : Code) (A : Pt) (g : JFrame) (ig : Instr) (mk : MethodId) (a : Array Value),
    Stand p l e R s m sargs below meth c A.U A.locs A.cells A.slots → g.method = m → g.locals.size = c.maxLocals → decode c.code g.pc = .ok (ig, len) →
    2 * g.monitorRoom + (g.stack.map fun v => v.category).sum ≤ W9 → A.U.methodNamed? y = some mk → Pre A a →
    (∃ (v : Option Value) (B : Pt), Stand p l e R s m sargs below meth c B.U B.locs B.cells B.slots ∧ Post A a v B ∧
      Steps p.tables e below (doInvoke e (A.U.setTop g) [] mk a).1 (B.U.setTop { g with pc := g.pc + len, stack := v.toList ++ g.stack })) ∨
    (∃ (q : Addr) (B : Pt), Stand p l e R s m sargs below meth c B.U B.locs B.cells B.slots ∧ PostX A a q B ∧
      Steps p.tables e below (doInvoke e (A.U.setTop g) [] mk a).1 ((B.U.setTop g).pushFrame (.throwing q)))
section Payer
variable {l : Launch} {R : Room} {p : Program} {e : Env} {below : List Frame} {s : State} {sargs : Array Value} {y : MethodName} {len W9 : Nat}
theorem vx_back {ws : List Cond} {rm : Room} {Pc : Array Value → State → Prop} {Qc : Array Value → State → Outcome → State → Prop} {XC : String → State → State → Prop} {mc ms : Nat} {free : Addr → Prop} {bytes : ByteArray} {maxL : Nat} {ret : Option FieldType}
    (hM : vx_Met l y ws rm Pc Qc XC mc ms free) (hblind : FrameBlind Pc) (hrc : rm.cells = mc) (hrs : rm.slots = ms)
    (hframes : rm.frames + 1 ≤ R.frames) (hlocals : W9 + (maxL + 11) + rm.locals ≤ R.locals)
    (hws : ∀ w ∈ ws, ∀ a' U, s.WarmedH U.vm → w.before a' U = true) (hcode : Cond.code y bytes maxL ret ∈ ws) (hinit : ∀ a' U, s.WarmedH U.vm → (Cond.initialized y.cls).before a' U = true) :
    vx_Back l R p e below s sargs y len W9 (PreOf R mc ms Pc) (PostOf Qc mc ms free) (vx_Post XC mc ms free) := by
  intro m meth c A g ig mk a X hg hsize hdg hW hn hp
  have h1 : (headSpec ws rm).pre.before a A.U = true := atoms_intro fun w hw => hws w hw _ _ X.warmed
  have h2 : (Cond.code y bytes maxL ret).before a A.U = true := hws _ hcode _ _ X.warmed
  have h3 : (Cond.initialized y.cls).before a A.U = true := hinit _ _ X.warmed
  have h4 : A.cells + (headSpec ws rm).room.cells ≤ R.cells := by rw [show (headSpec ws rm).room.cells = mc from hrc]; exact hp.1
  have h5 : A.slots + (headSpec ws rm).room.slots ≤ R.slots := by rw [show (headSpec ws rm).room.slots = ms from hrs]; exact hp.2.1
  have hPc : Pc a (A.U.calling g mk a) := hblind _ _ _ _ hp.2.2
  obtain ⟨U, Ls, c0, s0⟩ := A
  dsimp only [Pt.U, Pt.locs, Pt.cells, Pt.slots] at h1 h2 h3 h4 h5 X hn hPc ⊢
  obtain ⟨methY, cY, hmY, hcY, -, hlY, -, -, -, -⟩ := Cond.code_spec hn h2
  obtain ⟨kY, hkY, -⟩ := className_of_methodNamed hn
  have hinitY : kY.init = .initialized := Cond.initialized_spec (findClass_of_methodNamed hn) hkY h3
  have h : At U g.method c below := by rw [hg]; exact X.here
  have hlocals9 : W9 + (maxL + 11) + (headSpec ws rm).room.locals ≤ R.locals := hlocals
  have happ : (headSpec ws rm).appliesLoose y e.platform (U.calling g mk a) = true :=
    Spec.appliesLoose_calling (g := g) h hdg hn hkY hinitY
      (X.room_calling (g := g) (R' := (headSpec ws rm).room) hsize hmY hcY hframes (by rw [hlY]; omega) h4 h5) h1
  obtain ⟨mid, hmid⟩ := h.above
  have hfr : (U.setTop g).frames = (.java g :: mid) ++ below := by rw [State.frames_setTop' g h.top, hmid]; rfl
  obtain ⟨o, s₂, hsteps, -, hend, hq⟩ := Steps.callFree hM p X.admits X.cas X.clock (acts := []) hfr happ hPc trivial
  have hq' : vx_Q Qc XC mc ms free a (U.calling g mk a) o s₂ := hq
  rw [State.frames_setTop' g h.top] at hend
  obtain ⟨g₀, hg0⟩ := Option.isSome_iff_exists.mp h.top
  obtain ⟨r, hr⟩ := State.topJava?_eq_some.mp hg0
  have hr' : (({ U with heap := s₂.heap, slotsUsed := s₂.slotsUsed } : State).setVm s₂.vm).frames = .java g₀ :: r := hr
  rcases hq' with ⟨hqc, L, hfe, hL⟩ | ⟨q, rfl, E, ce, L, hx, hce, hcv, hcl, hW₂, hsm, hL⟩
  · obtain ⟨⟨v, rfl⟩, hW₂, e2, q2, q3, q4, q5, q6⟩ := id hfe
    have e3 : s₂ = ({ (U.calling g mk a).setFrames s₂.frames with heap := s₂.heap, slotsUsed := s₂.slotsUsed } : State).setVm s₂.vm := by
      have : s₂ = ({ s₂ with vm := (U.calling g mk a).vm } : State).setVm s₂.vm := rfl
      rw [e2] at this
      exact this
    obtain ⟨c₂, i₂, len₂, hc₂, hd₂, hf₂⟩ := hend
    have hW' : U.WarmedH s₂.vm := hW₂
    have hcc : c₂ = c := by
      have h1 : s₂.code? g.method = U.code? g.method := by
        rw [State.code?_eq, State.code?_eq, hW'.alike.method?]
      exact Option.some.inj (hc₂.symm.trans (h1.trans h.code))
    subst hcc
    have hlen : len₂ = len := by rw [hdg] at hd₂; cases hd₂; rfl
    subst hlen
    have hs₂ : s₂ = (({ U with heap := s₂.heap, slotsUsed := s₂.slotsUsed } : State).setVm s₂.vm).setTop { g with pc := g.pc + len₂, stack := v.toList ++ g.stack } := by
      refine e3.trans ?_
      rw [hf₂, State.calling_eq h.top, State.setFrames_setFrames, State.setTop_of_frames _ hr', hr]
      rfl
    have hsame : U.sameButNew ({ U with heap := s₂.heap, slotsUsed := s₂.slotsUsed } : State) L mc ms := by
      refine ⟨?_, q2, q3, q4, q5, q6⟩
      obtain ⟨t, ht, -⟩ := State.frames_cons hr
      show ({ U with heap := s₂.heap, slotsUsed := s₂.slotsUsed } : State) = { U.setFrames U.frames with heap := s₂.heap, slotsUsed := s₂.slotsUsed }
      rw [State.setFrames_self ht]
    subst hg
    refine Or.inl ⟨v, ⟨(({ U with heap := s₂.heap, slotsUsed := s₂.slotsUsed } : State).setVm s₂.vm), Ls ++ L, c0 + mc, s0 + ms⟩,
      ⟨X.admits, X.cas, X.clock, X.frames, X.room, X.hears, X.method, X.code, (X.here.setHeapUsed s₂.heap s₂.slotsUsed).setVm hW'.alike, X.tail, State.WarmedH.trans X.warmed hW', X.limits, X.bytes, X.same.trans (hsame.setVm s.vm)⟩,
      ⟨g, mk, s₂, L, rfl, rfl, hqc, rfl, hL, rfl, rfl⟩, ?_⟩
    show Steps p.tables e below _ ((({ U with heap := s₂.heap, slotsUsed := s₂.slotsUsed } : State).setVm s₂.vm).setTop { g with pc := g.pc + len₂, stack := v.toList ++ g.stack })
    rw [← hs₂]
    exact hsteps
  · obtain ⟨e2, q2, q3, q4, q5, q6⟩ := id hsm
    have e3 : s₂ = ({ (U.calling g mk a).setFrames s₂.frames with heap := s₂.heap, slotsUsed := s₂.slotsUsed } : State).setVm s₂.vm := by
      have : s₂ = ({ s₂ with vm := (U.calling g mk a).vm } : State).setVm s₂.vm := rfl
      rw [e2] at this
      exact this
    have hf₂ : s₂.frames = .throwing q :: .java g :: U.frames.tail := hend
    have hW' : U.WarmedH s₂.vm := hW₂
    have hs₂ : s₂ = ((({ U with heap := s₂.heap, slotsUsed := s₂.slotsUsed } : State).setVm s₂.vm).setTop g).pushFrame (.throwing q) := by
      refine e3.trans ?_
      rw [hf₂, State.calling_eq h.top, State.setFrames_setFrames, State.pushFrame, State.frames_setTop _ hr', State.setTop_of_frames _ hr', State.setFrames_setFrames, hr]
      rfl
    have hsame : U.sameButNew ({ U with heap := s₂.heap, slotsUsed := s₂.slotsUsed } : State) L mc ms := by
      refine ⟨?_, q2, q3, q4, q5, q6⟩
      obtain ⟨t, ht, -⟩ := State.frames_cons hr
      show ({ U with heap := s₂.heap, slotsUsed := s₂.slotsUsed } : State) = { U.setFrames U.frames with heap := s₂.heap, slotsUsed := s₂.slotsUsed }
      rw [State.setFrames_self ht]
    subst hg
    refine Or.inr ⟨q, ⟨(({ U with heap := s₂.heap, slotsUsed := s₂.slotsUsed } : State).setVm s₂.vm), Ls ++ L, c0 + mc, s0 + ms⟩,
      ⟨X.admits, X.cas, X.clock, X.frames, X.room, X.hears, X.method, X.code, (X.here.setHeapUsed s₂.heap s₂.slotsUsed).setVm hW'.alike, X.tail, State.WarmedH.trans X.warmed hW', X.limits, X.bytes, X.same.trans (hsame.setVm s.vm)⟩,
      ⟨g, mk, s₂, L, E, ce, rfl, rfl, hx, hce, hcv, hcl, rfl, hL, rfl, rfl⟩, ?_⟩
    show Steps p.tables e below _ (((({ U with heap := s₂.heap, slotsUsed := s₂.slotsUsed } : State).setVm s₂.vm).setTop g).pushFrame (.throwing q))
    rw [← hs₂]
    exact hsteps
end Payer
section Calls
variable {p : Program} {l : Launch} {e : Env} {R : Room} {s : State} {m : MethodId} {args : Array Value} {below : List Frame} {meth : Method} {c : Code} {T : State} {locs : List Loc} {cells slots : Nat}
theorem vx_callV (X : Stand p l e R s m args below meth c T locs cells slots) (hexec : p.tables.exec = Jvm.exec) {own C : String} {index : Nat} {y : MethodName} {bytes : ByteArray} {maxL : Nat} {ret : Option FieldType}
    (hown : s.vm.findClass own = some m.cls) (hlink : (Cond.methodLink own index y).before args s = true) (hinst : (Cond.instanceMethod y).before args s = true) (hsel : (Cond.selects C y y).before args s = true)
    (hcode : (Cond.code y bytes maxL ret).before args s = true) (hy : y.cls ≠ "java/lang/invoke/MethodHandle" ∧ y.cls ≠ "java/lang/invoke/VarHandle")
    {W9 : Nat} {Pre : Pt → Array Value → Prop} {Post : Pt → Array Value → Option Value → Pt → Prop} {PostX : Pt → Array Value → Addr → Pt → Prop} (hK : vx_Back l R p e below s args y 3 W9 Pre Post PostX)
    {b : Addr} {cellB : Cell} (hcell : T.heap[b]? = some cellB) (hobj : cellB.vm.isStatics = false) (hcls : s.vm.findClass C = some cellB.cls)
    {g : JFrame} (hg : g.method = m) (hsize : g.locals.size = c.maxLocals) {argsL rest : List Value} (hlen : ∀ sig, parseMethodDescriptor y.desc = some sig → argsL.length = sig.parameters.length)
    (hstack : g.stack = argsL.reverse ++ .ref b :: rest) (hW : 2 * g.monitorRoom + (rest.map fun v => v.category).sum ≤ W9) (hdg : decode c.code g.pc = .ok (.invokevirtual index, 3))
    (hpre : ∀ vm₁, s.WarmedH vm₁ → Pre ⟨T.setVm vm₁, locs, cells, slots⟩ (Value.ref b :: argsL).toArray) :
    (∃ (v : Option Value) (vm₁ : Vm) (B : Pt), s.WarmedH vm₁ ∧ Stand p l e R s m args below meth c B.U B.locs B.cells B.slots ∧ Post ⟨T.setVm vm₁, locs, cells, slots⟩ (Value.ref b :: argsL).toArray v B ∧
      ∀ target, Steps p.tables e below (B.U.setTop { g with pc := g.pc + 3, stack := v.toList ++ rest }) target → Steps p.tables e below (T.setTop g) target) ∨
    (∃ (q : Addr) (vm₁ : Vm) (B : Pt), s.WarmedH vm₁ ∧ Stand p l e R s m args below meth c B.U B.locs B.cells B.slots ∧ PostX ⟨T.setVm vm₁, locs, cells, slots⟩ (Value.ref b :: argsL).toArray q B ∧
      Steps p.tables e below (T.setTop g) ((B.U.setTop { g with stack := rest }).pushFrame (.throwing q))) := by
  obtain ⟨mk, methM, hnamed, hmethM, hstM, habM⟩ := Cond.instanceMethod_spec hinst
  obtain ⟨methM', cM, hmethM', -, -, -, -, -, -, hsigM⟩ := Cond.code_spec hnamed hcode
  cases hmethM.symm.trans hmethM'
  obtain ⟨c2, r2, m2, q1, q2, q3, q4, kP, hkP, hkPi⟩ := Cond.selects_spec hsel
  cases hcls.symm.trans q1
  cases (State.methodFound?_of_named hnamed hy).symm.trans q2
  cases hnamed.symm.trans q3
  have hselP : selectMethod e.platform s.vm cellB.cls mk = .method mk := by rw [Launch.admits_selectMethod X.admits]; exact q4
  obtain ⟨vm₁, X₁, hstep₁⟩ := X.invokevirtual hexec hown hlink hnamed hmethM hstM hkP hkPi hy (a := b) (cell := cellB) hcell
    (fun z h => by rw [h] at hobj; cases hobj) hselP hmethM habM hkP hkPi (g := g) hg (argsL := argsL) (rest := rest) (hlen _ hsigM) hstack hdg
  rcases hK m meth c ⟨T.setVm vm₁, locs, cells, slots⟩ { g with stack := rest } (.invokevirtual index) mk (Value.ref b :: argsL).toArray X₁ hg hsize hdg hW (X₁.named hnamed) (hpre vm₁ X₁.warmed) with ⟨v, B, X', hpost, hsteps⟩ | ⟨q, B, X', hpost, hsteps⟩
  · exact Or.inl ⟨v, vm₁, B, X₁.warmed, X', hpost, fun target h => hstep₁ _ fun acts => by rw [doInvoke_state]; exact hsteps.trans h⟩
  · exact Or.inr ⟨q, vm₁, B, X₁.warmed, X', hpost, hstep₁ _ fun acts => by rw [doInvoke_state]; exact hsteps⟩
theorem vx_callS (X : Stand p l e R s m args below meth c T locs cells slots) (hexec : p.tables.exec = Jvm.exec) {own : String} {index : Nat} {y : MethodName} {bytes : ByteArray} {maxL : Nat} {ret : Option FieldType}
    (hown : s.vm.findClass own = some m.cls) (hlink : (Cond.methodLink own index y).before args s = true) (hstat : (Cond.static y).before args s = true) (hinit : (Cond.initialized y.cls).before args s = true)
    (hcode : (Cond.code y bytes maxL ret).before args s = true) (hy : y.cls ≠ "java/lang/invoke/MethodHandle" ∧ y.cls ≠ "java/lang/invoke/VarHandle")
    {W9 : Nat} {Pre : Pt → Array Value → Prop} {Post : Pt → Array Value → Option Value → Pt → Prop} {PostX : Pt → Array Value → Addr → Pt → Prop} (hK : vx_Back l R p e below s args y 3 W9 Pre Post PostX)
    {g : JFrame} (hg : g.method = m) (hsize : g.locals.size = c.maxLocals) {argsL rest : List Value} (hlen : ∀ sig, parseMethodDescriptor y.desc = some sig → argsL.length = sig.parameters.length)
    (hstack : g.stack = argsL.reverse ++ rest) (hW : 2 * g.monitorRoom + (rest.map fun v => v.category).sum ≤ W9) (hdg : decode c.code g.pc = .ok (.invokestatic index, 3))
    (hpre : ∀ vm₁, s.WarmedH vm₁ → Pre ⟨T.setVm vm₁, locs, cells, slots⟩ argsL.toArray) :
    (∃ (v : Option Value) (vm₁ : Vm) (B : Pt), s.WarmedH vm₁ ∧ Stand p l e R s m args below meth c B.U B.locs B.cells B.slots ∧ Post ⟨T.setVm vm₁, locs, cells, slots⟩ argsL.toArray v B ∧
      ∀ target, Steps p.tables e below (B.U.setTop { g with pc := g.pc + 3, stack := v.toList ++ rest }) target → Steps p.tables e below (T.setTop g) target) ∨
    (∃ (q : Addr) (vm₁ : Vm) (B : Pt), s.WarmedH vm₁ ∧ Stand p l e R s m args below meth c B.U B.locs B.cells B.slots ∧ PostX ⟨T.setVm vm₁, locs, cells, slots⟩ argsL.toArray q B ∧
      Steps p.tables e below (T.setTop g) ((B.U.setTop { g with stack := rest }).pushFrame (.throwing q))) := by
  obtain ⟨mk, hnamed⟩ := Cond.code_named hcode
  obtain ⟨methM, cM, hmethM, -, -, -, -, -, -, hsigM⟩ := Cond.code_spec hnamed hcode
  have hstatic : methM.isStatic = true := Cond.static_spec hnamed hmethM hstat
  obtain ⟨kP, hkP, -⟩ := className_of_methodNamed hnamed
  have hinitP : kP.init = .initialized := Cond.initialized_spec (findClass_of_methodNamed hnamed) hkP hinit
  obtain ⟨vm₁, X₁, hstep₁⟩ := X.invokestatic hexec hown hlink hnamed hmethM hstatic hkP hinitP hy (g := g) hg (argsL := argsL) (rest := rest) (hlen _ hsigM) hstack hdg
  rcases hK m meth c ⟨T.setVm vm₁, locs, cells, slots⟩ { g with stack := rest } (.invokestatic index) mk argsL.toArray X₁ hg hsize hdg hW (X₁.named hnamed) (hpre vm₁ X₁.warmed) with ⟨v, B, X', hpost, hsteps⟩ | ⟨q, B, X', hpost, hsteps⟩
  · exact Or.inl ⟨v, vm₁, B, X₁.warmed, X', hpost, fun target h => hstep₁ _ fun acts => by rw [doInvoke_state]; exact hsteps.trans h⟩
  · exact Or.inr ⟨q, vm₁, B, X₁.warmed, X', hpost, hstep₁ _ fun acts => by rw [doInvoke_state]; exact hsteps⟩
end Calls
theorem vx_cls {s : State} {T : State} {vm₁ : Vm} {E : String} {k : ClassId} (hW : s.WarmedH vm₁) (h : (T.setVm vm₁).vm.findClass E = some k) : s.vm.findClass E = some k := by
  have h1 : vm₁.findClass E = some k := h
  rw [hW.alike.findClass] at h1
  exact h1
/-- the method's frame g, with q thrown over it -/
def vx_W (p : Program) (l : Launch) (e : Env) (R : Room) (s : State) (m : MethodId) (args : Array Value) (below : List Frame) (meth : Method) (c : Code) (H : Heap) (locs : List Loc) (cells slots : Nat) (Q : State → Prop) (g : JFrame) (q : Addr) : Prop :=
  ∀ T : State, T.heap = H → Stand p l e R s m args below meth c T locs cells slots → ∃ t, Steps p.tables e below ((T.setTop g).pushFrame (.throwing q)) t ∧ Q t
def vx_Run (p : Program) (l : Launch) (e : Env) (R : Room) (s : State) (m : MethodId) (args : Array Value) (below : List Frame) (meth : Method) (c : Code) (H : Heap) (locs : List Loc) (cells slots mc ms : Nat) (g : JFrame) (rest : List Value) (Qa : State → Outcome → State → Prop) (XC : String → State → State → Prop) (free : Addr → Prop) : Prop :=
  ∀ T : State, T.heap = H → Stand p l e R s m args below meth c T locs cells slots →
    (∃ (v : Option Value) (st₀ t T' : State) (L : List Loc), st₀.heap = H ∧ Stand p l e R s m args below meth c T' (locs ++ L) (cells + mc) (slots + ms) ∧ (∀ q ∈ L, free q.base) ∧ T'.heap = t.heap ∧ T'.vm = t.vm ∧ Qa st₀ (.returned v) t ∧
      Goes p e below T g T' { g with pc := g.pc + 3, stack := v.toList ++ rest }) ∨
    (∃ (q : Addr) (st₀ t T' : State) (L : List Loc) (E : String) (ce : Cell), st₀.heap = H ∧ Stand p l e R s m args below meth c T' (locs ++ L) (cells + mc) (slots + ms) ∧ (∀ z ∈ L, free z.base) ∧ T'.heap = t.heap ∧ T'.vm = t.vm ∧ XC E st₀ t ∧ t.heap[q]? = some ce ∧ ce.vm = .none ∧ s.vm.findClass E = some ce.cls ∧
      Steps p.tables e below (T.setTop g) ((T'.setTop { g with stack := rest }).pushFrame (.throwing q)))
def vx_X {S : Type} (px : S → Prop) (B : String → S → State → Prop) (A : Nat → Prop) : String → State → State → Prop := fun E st t => ∃ u : S, px u ∧ B E u t ∧ va_F A st t
section Runs
variable {p : Program} {l : Launch} {e : Env} {R : Room} {s : State} {m : MethodId} {args : Array Value} {below : List Frame} {meth : Method} {c : Code} {H : Heap} {locs : List Loc} {cells slots : Nat}
variable {y : MethodName} {bytes cc : ByteArray} {maxL nL mc ms n index : Nat} {ret : Option FieldType} {ws : List Cond} {rm : Room} {Pc : Array Value → State → Prop} {Qc : Array Value → State → Outcome → State → Prop} {XC : String → State → State → Prop} {free : Addr → Prop} {Ts : List Cond} {own C : String} {b : Addr} {As rest : List Value} {g : JFrame}
theorem vx_callBack (cb : CallB R s args own index y bytes maxL ret ws rm mc ms n) (hM : vx_Met l y ws rm Pc Qc XC mc ms free) (hbl : FrameBlind Pc) : vx_Back l R p e below s args y 3 8 (PreOf R mc ms Pc) (PostOf Qc mc ms free) (vx_Post XC mc ms free) := by
  obtain ⟨hrc, hrs, hfr, hlo, hws, hcw, -, hini, -⟩ := cb
  exact vx_back (bytes := bytes) (maxL := maxL) (ret := ret) hM hbl hrc hrs hfr hlo hws hcw (fun a' U hW => word_at hW (Or.inl (by first | rfl | simp [Cond.onTables, Cond.keeps, Cond.steady])) hini)
theorem vx_runV (S : CallFix p m c cc nL s args Ts own) (hM : vx_Met l y ws rm Pc Qc XC mc ms free) (cw : CallW R s args own C index y bytes maxL ret ws rm mc ms n) (hp : PreV s H C b Pc As)
    (hg : g.method = m) (hn : As.length = n) (hsize : g.locals.size = nL) (hstack : g.stack = As.reverse ++ .ref b :: rest) (hW : 2 * g.monitorRoom + (rest.map fun v => v.category).sum ≤ 8) (hdg : decode cc g.pc = .ok (.invokevirtual index, 3)) (hf : cells + mc ≤ R.cells ∧ slots + ms ≤ R.slots) :
    vx_Run p l e R s m args below meth c H locs cells slots mc ms g rest (Qc (Value.ref b :: As).toArray) XC free := by
  have hK : vx_Back l R p e below s args y 3 8 (PreOf R mc ms Pc) (PostOf Qc mc ms free) (vx_Post XC mc ms free) := vx_callBack cw.1 hM hp.1
  obtain ⟨⟨-, -, -, -, -, -, hcode, -, hy, hlen, hl⟩, hin, hse⟩ := cw
  obtain ⟨hx, hb, hml, ho, -⟩ := S
  obtain ⟨-, ⟨cellB, hcB, hoB, hclB⟩, hPc⟩ := hp
  intro T hT X
  rcases vx_callV X hx (C := C) (bytes := bytes) (maxL := maxL) (ret := ret) ho hl hin hse hcode hy hK (by rw [hT]; exact hcB) hoB hclB hg (hsize.trans hml.symm) (argsL := As) (rest := rest) (fun sig h => hn.trans (hlen sig h)) hstack hW (by rw [hb]; exact hdg)
    (fun vm₁ hW₁ => ⟨hf.1, hf.2, hPc (T.setVm vm₁) hT hW₁⟩) with ⟨v, vm₁, ⟨U', l2, c2, s2⟩, hW₁, X', ⟨g', mk, t, L, e1, e2, hq, h1, hL, h2, h3⟩, st⟩ | ⟨q, vm₁, ⟨U', l2, c2, s2⟩, hW₁, X', ⟨g', mk, t, L, E, ce, e1, e2, hq, hce, hcv, hcl, h1, hL, h2, h3⟩, st⟩
  · dsimp only [Pt.U, Pt.locs, Pt.cells, Pt.slots] at X' e1 e2 h1 h2 h3 st
    subst h1; subst h2; subst h3
    exact Or.inl ⟨v, (T.setVm vm₁).calling g' mk (Value.ref b :: As).toArray, t, U', L, hT, X', hL, e1, e2, hq, st⟩
  · dsimp only [Pt.U, Pt.locs, Pt.cells, Pt.slots] at X' e1 e2 h1 h2 h3 st hcl
    subst h1; subst h2; subst h3
    exact Or.inr ⟨q, (T.setVm vm₁).calling g' mk (Value.ref b :: As).toArray, t, U', L, E, ce, hT, X', hL, e1, e2, hq, hce, hcv, vx_cls hW₁ hcl, st⟩
theorem vx_runS (S : CallFix p m c cc nL s args Ts own) (hM : vx_Met l y ws rm Pc Qc XC mc ms free) (cw : CallB R s args own index y bytes maxL ret ws rm mc ms n ∧ (Cond.static y).before args s = true) (hp : PreS s H Pc As)
    (hg : g.method = m) (hn : As.length = n) (hsize : g.locals.size = nL) (hstack : g.stack = As.reverse ++ rest) (hW : 2 * g.monitorRoom + (rest.map fun v => v.category).sum ≤ 8) (hdg : decode cc g.pc = .ok (.invokestatic index, 3)) (hf : cells + mc ≤ R.cells ∧ slots + ms ≤ R.slots) :
    vx_Run p l e R s m args below meth c H locs cells slots mc ms g rest (Qc As.toArray) XC free := by
  have hK : vx_Back l R p e below s args y 3 8 (PreOf R mc ms Pc) (PostOf Qc mc ms free) (vx_Post XC mc ms free) := vx_callBack cw.1 hM hp.1
  obtain ⟨⟨-, -, -, -, -, -, hcode, hini, hy, hlen, hl⟩, hstt⟩ := cw
  obtain ⟨hx, hb, hml, ho, -⟩ := S
  intro T hT X
  rcases vx_callS X hx (bytes := bytes) (maxL := maxL) (ret := ret) ho hl hstt hini hcode hy hK hg (hsize.trans hml.symm) (argsL := As) (rest := rest) (fun sig h => hn.trans (hlen sig h)) hstack hW (by rw [hb]; exact hdg)
    (fun vm₁ hW₁ => ⟨hf.1, hf.2, hp.2 (T.setVm vm₁) hT hW₁⟩) with ⟨v, vm₁, ⟨U', l2, c2, s2⟩, hW₁, X', ⟨g', mk, t, L, e1, e2, hq, h1, hL, h2, h3⟩, st⟩ | ⟨q, vm₁, ⟨U', l2, c2, s2⟩, hW₁, X', ⟨g', mk, t, L, E, ce, e1, e2, hq, hce, hcv, hcl, h1, hL, h2, h3⟩, st⟩
  · dsimp only [Pt.U, Pt.locs, Pt.cells, Pt.slots] at X' e1 e2 h1 h2 h3 st
    subst h1; subst h2; subst h3
    exact Or.inl ⟨v, (T.setVm vm₁).calling g' mk As.toArray, t, U', L, hT, X', hL, e1, e2, hq, st⟩
  · dsimp only [Pt.U, Pt.locs, Pt.cells, Pt.slots] at X' e1 e2 h1 h2 h3 st hcl
    subst h1; subst h2; subst h3
    exact Or.inr ⟨q, (T.setVm vm₁).calling g' mk As.toArray, t, U', L, E, ce, hT, X', hL, e1, e2, hq, hce, hcv, vx_cls hW₁ hcl, st⟩
end Runs
section Rows
variable {p : Program} {l : Launch} {e : Env} {R : Room} {s : State} {m : MethodId} {args : Array Value} {below : List Frame} {meth : Method} {c : Code} {H : Heap} {locs : List Loc} {cells slots : Nat} {Q : State → Prop}
variable {mc ms : Nat} {free : Addr → Prop} {A0 A1 : Nat → Prop} {H0 : Heap} {a : Array Value} {pc : Nat} {ls : Array Slot} {st0 rest : List Value}
theorem vx_keep {st₀ t T' : State} {L : List Loc} (h0 : st₀.heap = H) (e1 : T'.heap = t.heap) (hS : va_S A0 H0 H locs) (hA : ∀ q, q < H.size → A1 q → A0 q) (hf : ∀ q, free q → A0 q) (hL : ∀ q ∈ L, free q.base) (hF : va_F A1 st₀ t) :
    H.size ≤ T'.heap.size ∧ (∀ q : Nat, q < H.size → ¬ A1 q → T'.heap[q]? = H[q]?) ∧ va_S A0 H0 T'.heap (locs ++ L) := by
  obtain ⟨hz, hk⟩ := hF
  rw [h0] at hz hk
  exact ⟨by rw [e1]; exact hz, fun q h1 h2 => by rw [e1]; exact hk q h1 h2,
    ⟨Nat.le_trans hS.1 (by rw [e1]; exact hz), fun q h1 h2 => by rw [e1, hk q (Nat.lt_of_lt_of_le h1 hS.1) (fun z => h2 (hA q (Nat.lt_of_lt_of_le h1 hS.1) z))]; exact hS.2.1 q h1 h2, fun q hq => by
      rcases List.mem_append.mp hq with h | h
      · exact hS.2.2 q h
      · exact hf _ (hL q h)⟩⟩
theorem vx_calli {S SX : Type} {post : Int32 → S → Prop} {px : SX → Prop} {B : S → State → Prop} {BX : String → SX → State → Prop} {AX : Nat → Prop} (hr : vx_Run p l e R s m args below meth c H locs cells slots mc ms (F0 m pc ls st0) rest (va_Qi post B A1 a) (vx_X px BX AX) free) (hS : va_S A0 H0 H locs) (hA : ∀ q, q < H.size → A1 q → A0 q) (hf : ∀ q, free q → A0 q) (hAX : ∀ q, q < H.size → AX q → A0 q)
    (kx : ∀ (E : String) (ce : Cell) (q9 : Addr) (u : SX) (t : State) (H1 : Heap) (locs1 : List Loc), t.heap = H1 → s.vm.Alike t.vm → px u → BX E u t → H.size ≤ H1.size → (∀ q : Nat, q < H.size → ¬ AX q → H1[q]? = H[q]?) → va_S A0 H0 H1 locs1 → H1[q9]? = some ce → ce.vm = .none → s.vm.findClass E = some ce.cls → vx_W p l e R s m args below meth c H1 locs1 (cells + mc) (slots + ms) Q (F0 m pc ls rest) q9)
    (kk : ∀ (r : Int32) (u : S) (t : State) (H1 : Heap) (locs1 : List Loc), t.heap = H1 → s.vm.Alike t.vm → post r u → B u t → H.size ≤ H1.size → (∀ q : Nat, q < H.size → ¬ A1 q → H1[q]? = H[q]?) → va_S A0 H0 H1 locs1 → W p l e R s m args below meth c H1 locs1 (cells + mc) (slots + ms) Q (F0 m (pc + 3) ls (.int r :: rest))) : W p l e R s m args below meth c H locs cells slots Q (F0 m pc ls st0) := by
  intro T hT X
  rcases hr T hT X with ⟨v, st₀, t, T', L, h0, X', hL, e1, e2, ⟨⟨r, u, hv, hp, hb⟩, hF⟩, st⟩ | ⟨q, st₀, t, T', L, E, ce, h0, X', hL, e1, e2, ⟨u, hp, hb, hF⟩, hce, hcv, hcl, st⟩
  · cases hv
    obtain ⟨k1, k2, k3⟩ := vx_keep h0 e1 hS hA hf hL hF
    obtain ⟨t2, a1, b1⟩ := kk r u t T'.heap (locs ++ L) e1.symm (by rw [← e2]; exact X'.warmed.alike) hp hb k1 k2 k3 T' rfl X'
    exact ⟨t2, st t2 a1, b1⟩
  · obtain ⟨k1, k2, k3⟩ := vx_keep h0 e1 hS hAX hf hL hF
    obtain ⟨t2, a1, b1⟩ := kx E ce q u t T'.heap (locs ++ L) e1.symm (by rw [← e2]; exact X'.warmed.alike) hp hb k1 k2 k3 (by rw [e1]; exact hce) hcv hcl T' rfl X'
    exact ⟨t2, st.trans a1, b1⟩
theorem vx_calll {S SX : Type} {post : Int64 → S → Prop} {px : SX → Prop} {B : S → State → Prop} {BX : String → SX → State → Prop} {AX : Nat → Prop} (hr : vx_Run p l e R s m args below meth c H locs cells slots mc ms (F0 m pc ls st0) rest (va_Ql post B A1 a) (vx_X px BX AX) free) (hS : va_S A0 H0 H locs) (hA : ∀ q, q < H.size → A1 q → A0 q) (hf : ∀ q, free q → A0 q) (hAX : ∀ q, q < H.size → AX q → A0 q)
    (kx : ∀ (E : String) (ce : Cell) (q9 : Addr) (u : SX) (t : State) (H1 : Heap) (locs1 : List Loc), t.heap = H1 → s.vm.Alike t.vm → px u → BX E u t → H.size ≤ H1.size → (∀ q : Nat, q < H.size → ¬ AX q → H1[q]? = H[q]?) → va_S A0 H0 H1 locs1 → H1[q9]? = some ce → ce.vm = .none → s.vm.findClass E = some ce.cls → vx_W p l e R s m args below meth c H1 locs1 (cells + mc) (slots + ms) Q (F0 m pc ls rest) q9)
    (kk : ∀ (r : Int64) (u : S) (t : State) (H1 : Heap) (locs1 : List Loc), t.heap = H1 → s.vm.Alike t.vm → post r u → B u t → H.size ≤ H1.size → (∀ q : Nat, q < H.size → ¬ A1 q → H1[q]? = H[q]?) → va_S A0 H0 H1 locs1 → W p l e R s m args below meth c H1 locs1 (cells + mc) (slots + ms) Q (F0 m (pc + 3) ls (.long r :: rest))) : W p l e R s m args below meth c H locs cells slots Q (F0 m pc ls st0) := by
  intro T hT X
  rcases hr T hT X with ⟨v, st₀, t, T', L, h0, X', hL, e1, e2, ⟨⟨r, u, hv, hp, hb⟩, hF⟩, st⟩ | ⟨q, st₀, t, T', L, E, ce, h0, X', hL, e1, e2, ⟨u, hp, hb, hF⟩, hce, hcv, hcl, st⟩
  · cases hv
    obtain ⟨k1, k2, k3⟩ := vx_keep h0 e1 hS hA hf hL hF
    obtain ⟨t2, a1, b1⟩ := kk r u t T'.heap (locs ++ L) e1.symm (by rw [← e2]; exact X'.warmed.alike) hp hb k1 k2 k3 T' rfl X'
    exact ⟨t2, st t2 a1, b1⟩
  · obtain ⟨k1, k2, k3⟩ := vx_keep h0 e1 hS hAX hf hL hF
    obtain ⟨t2, a1, b1⟩ := kx E ce q u t T'.heap (locs ++ L) e1.symm (by rw [← e2]; exact X'.warmed.alike) hp hb k1 k2 k3 (by rw [e1]; exact hce) hcv hcl T' rfl X'
    exact ⟨t2, st.trans a1, b1⟩
theorem vx_callf {S SX : Type} {post : UInt32 → S → Prop} {px : SX → Prop} {B : S → State → Prop} {BX : String → SX → State → Prop} {AX : Nat → Prop} (hr : vx_Run p l e R s m args below meth c H locs cells slots mc ms (F0 m pc ls st0) rest (va_Qf post B A1 a) (vx_X px BX AX) free) (hS : va_S A0 H0 H locs) (hA : ∀ q, q < H.size → A1 q → A0 q) (hf : ∀ q, free q → A0 q) (hAX : ∀ q, q < H.size → AX q → A0 q)
    (kx : ∀ (E : String) (ce : Cell) (q9 : Addr) (u : SX) (t : State) (H1 : Heap) (locs1 : List Loc), t.heap = H1 → s.vm.Alike t.vm → px u → BX E u t → H.size ≤ H1.size → (∀ q : Nat, q < H.size → ¬ AX q → H1[q]? = H[q]?) → va_S A0 H0 H1 locs1 → H1[q9]? = some ce → ce.vm = .none → s.vm.findClass E = some ce.cls → vx_W p l e R s m args below meth c H1 locs1 (cells + mc) (slots + ms) Q (F0 m pc ls rest) q9)
    (kk : ∀ (r : UInt32) (u : S) (t : State) (H1 : Heap) (locs1 : List Loc), t.heap = H1 → s.vm.Alike t.vm → post r u → B u t → H.size ≤ H1.size → (∀ q : Nat, q < H.size → ¬ A1 q → H1[q]? = H[q]?) → va_S A0 H0 H1 locs1 → W p l e R s m args below meth c H1 locs1 (cells + mc) (slots + ms) Q (F0 m (pc + 3) ls (.float r :: rest))) : W p l e R s m args below meth c H locs cells slots Q (F0 m pc ls st0) := by
  intro T hT X
  rcases hr T hT X with ⟨v, st₀, t, T', L, h0, X', hL, e1, e2, ⟨⟨r, u, hv, hp, hb⟩, hF⟩, st⟩ | ⟨q, st₀, t, T', L, E, ce, h0, X', hL, e1, e2, ⟨u, hp, hb, hF⟩, hce, hcv, hcl, st⟩
  · cases hv
    obtain ⟨k1, k2, k3⟩ := vx_keep h0 e1 hS hA hf hL hF
    obtain ⟨t2, a1, b1⟩ := kk r u t T'.heap (locs ++ L) e1.symm (by rw [← e2]; exact X'.warmed.alike) hp hb k1 k2 k3 T' rfl X'
    exact ⟨t2, st t2 a1, b1⟩
  · obtain ⟨k1, k2, k3⟩ := vx_keep h0 e1 hS hAX hf hL hF
    obtain ⟨t2, a1, b1⟩ := kx E ce q u t T'.heap (locs ++ L) e1.symm (by rw [← e2]; exact X'.warmed.alike) hp hb k1 k2 k3 (by rw [e1]; exact hce) hcv hcl T' rfl X'
    exact ⟨t2, st.trans a1, b1⟩
theorem vx_calld {S SX : Type} {post : UInt64 → S → Prop} {px : SX → Prop} {B : S → State → Prop} {BX : String → SX → State → Prop} {AX : Nat → Prop} (hr : vx_Run p l e R s m args below meth c H locs cells slots mc ms (F0 m pc ls st0) rest (va_Qd post B A1 a) (vx_X px BX AX) free) (hS : va_S A0 H0 H locs) (hA : ∀ q, q < H.size → A1 q → A0 q) (hf : ∀ q, free q → A0 q) (hAX : ∀ q, q < H.size → AX q → A0 q)
    (kx : ∀ (E : String) (ce : Cell) (q9 : Addr) (u : SX) (t : State) (H1 : Heap) (locs1 : List Loc), t.heap = H1 → s.vm.Alike t.vm → px u → BX E u t → H.size ≤ H1.size → (∀ q : Nat, q < H.size → ¬ AX q → H1[q]? = H[q]?) → va_S A0 H0 H1 locs1 → H1[q9]? = some ce → ce.vm = .none → s.vm.findClass E = some ce.cls → vx_W p l e R s m args below meth c H1 locs1 (cells + mc) (slots + ms) Q (F0 m pc ls rest) q9)
    (kk : ∀ (r : UInt64) (u : S) (t : State) (H1 : Heap) (locs1 : List Loc), t.heap = H1 → s.vm.Alike t.vm → post r u → B u t → H.size ≤ H1.size → (∀ q : Nat, q < H.size → ¬ A1 q → H1[q]? = H[q]?) → va_S A0 H0 H1 locs1 → W p l e R s m args below meth c H1 locs1 (cells + mc) (slots + ms) Q (F0 m (pc + 3) ls (.double r :: rest))) : W p l e R s m args below meth c H locs cells slots Q (F0 m pc ls st0) := by
  intro T hT X
  rcases hr T hT X with ⟨v, st₀, t, T', L, h0, X', hL, e1, e2, ⟨⟨r, u, hv, hp, hb⟩, hF⟩, st⟩ | ⟨q, st₀, t, T', L, E, ce, h0, X', hL, e1, e2, ⟨u, hp, hb, hF⟩, hce, hcv, hcl, st⟩
  · cases hv
    obtain ⟨k1, k2, k3⟩ := vx_keep h0 e1 hS hA hf hL hF
    obtain ⟨t2, a1, b1⟩ := kk r u t T'.heap (locs ++ L) e1.symm (by rw [← e2]; exact X'.warmed.alike) hp hb k1 k2 k3 T' rfl X'
    exact ⟨t2, st t2 a1, b1⟩
  · obtain ⟨k1, k2, k3⟩ := vx_keep h0 e1 hS hAX hf hL hF
    obtain ⟨t2, a1, b1⟩ := kx E ce q u t T'.heap (locs ++ L) e1.symm (by rw [← e2]; exact X'.warmed.alike) hp hb k1 k2 k3 (by rw [e1]; exact hce) hcv hcl T' rfl X'
    exact ⟨t2, st.trans a1, b1⟩
theorem vx_callv {S SX : Type} {post : S → Prop} {px : SX → Prop} {B : S → State → Prop} {BX : String → SX → State → Prop} {AX : Nat → Prop} (hr : vx_Run p l e R s m args below meth c H locs cells slots mc ms (F0 m pc ls st0) rest (va_Qv post B A1 a) (vx_X px BX AX) free) (hS : va_S A0 H0 H locs) (hA : ∀ q, q < H.size → A1 q → A0 q) (hf : ∀ q, free q → A0 q) (hAX : ∀ q, q < H.size → AX q → A0 q)
    (kx : ∀ (E : String) (ce : Cell) (q9 : Addr) (u : SX) (t : State) (H1 : Heap) (locs1 : List Loc), t.heap = H1 → s.vm.Alike t.vm → px u → BX E u t → H.size ≤ H1.size → (∀ q : Nat, q < H.size → ¬ AX q → H1[q]? = H[q]?) → va_S A0 H0 H1 locs1 → H1[q9]? = some ce → ce.vm = .none → s.vm.findClass E = some ce.cls → vx_W p l e R s m args below meth c H1 locs1 (cells + mc) (slots + ms) Q (F0 m pc ls rest) q9)
    (kk : ∀ (u : S) (t : State) (H1 : Heap) (locs1 : List Loc), t.heap = H1 → s.vm.Alike t.vm → post u → B u t → H.size ≤ H1.size → (∀ q : Nat, q < H.size → ¬ A1 q → H1[q]? = H[q]?) → va_S A0 H0 H1 locs1 → W p l e R s m args below meth c H1 locs1 (cells + mc) (slots + ms) Q (F0 m (pc + 3) ls (rest))) : W p l e R s m args below meth c H locs cells slots Q (F0 m pc ls st0) := by
  intro T hT X
  rcases hr T hT X with ⟨v, st₀, t, T', L, h0, X', hL, e1, e2, ⟨⟨u, hv, hp, hb⟩, hF⟩, st⟩ | ⟨q, st₀, t, T', L, E, ce, h0, X', hL, e1, e2, ⟨u, hp, hb, hF⟩, hce, hcv, hcl, st⟩
  · cases hv
    obtain ⟨k1, k2, k3⟩ := vx_keep h0 e1 hS hA hf hL hF
    obtain ⟨t2, a1, b1⟩ := kk u t T'.heap (locs ++ L) e1.symm (by rw [← e2]; exact X'.warmed.alike) hp hb k1 k2 k3 T' rfl X'
    exact ⟨t2, st t2 a1, b1⟩
  · obtain ⟨k1, k2, k3⟩ := vx_keep h0 e1 hS hAX hf hL hF
    obtain ⟨t2, a1, b1⟩ := kx E ce q u t T'.heap (locs ++ L) e1.symm (by rw [← e2]; exact X'.warmed.alike) hp hb k1 k2 k3 (by rw [e1]; exact hce) hcv hcl T' rfl X'
    exact ⟨t2, st.trans a1, b1⟩
/-- caught by the row x of this method's table; the rows ahead don't take it -/
theorem vx_catch {own name : String} {E : String} {ce : Cell} {q : Addr} (hown : s.vm.findClass own = some m.cls) (pre : List ExceptionTableEntry) (x : ExceptionTableEntry) (suf : List ExceptionTableEntry) (hsplit : c.exceptionTable.toList = pre ++ x :: suf)
    (hpass : ∀ z ∈ pre, covers z pc = false ∨ (z.catchType ≠ 0 ∧ ∃ nm : String, (Cond.classLink own z.catchType nm).before args s = true ∧ va_Nc E nm s)) (hx : covers x pc = true) (h0 : x.catchType ≠ 0)
    (hlink : (Cond.classLink own x.catchType name).before args s = true) (hcast : (Cond.castable E name).before args s = true) (hcell : H[q]? = some ce) (hv : ce.vm = .none) (hcl : s.vm.findClass E = some ce.cls)
    (kk : W p l e R s m args below meth c H locs cells slots Q (F0 m x.handlerPc ls [.ref q])) : vx_W p l e R s m args below meth c H locs cells slots Q (F0 m pc ls rest) q := by
  intro T hT X
  have hpl : e.platform.magicAccessors = ({} : Platform).magicAccessors := by rw [X.admits.platform]
  obtain ⟨c3, c4, hc3, hc4, hasg⟩ := Cond.castable_spec hcast
  cases Option.some.inj (hc3.symm.trans hcl)
  obtain ⟨c5, hc5, hcl5⟩ := Cond.classLink_spec hown hlink e.platform hpl
  cases Option.some.inj (hc4.symm.trans hc5)
  obtain ⟨vm', X', st⟩ := X.thenCaughtThrough q (g := F0 m pc ls rest) rfl (Steps.refl _) (by rw [hT]; exact hcell) (by rw [hv]; rfl) (by obtain ⟨k9, h9, -⟩ := Vm.findClass_spec hcl; exact ⟨k9, h9⟩) pre x suf hsplit
    (fun z hz => by
      rcases hpass z hz with h | ⟨hz0, nm, hl1, hn1⟩
      · exact Or.inl h
      · obtain ⟨c6, hc6, hcl6⟩ := Cond.classLink_spec hown hl1 e.platform hpl
        obtain ⟨a8, b8, h1, h2, h3⟩ := hn1
        cases Option.some.inj (h1.symm.trans hcl)
        cases Option.some.inj (h2.symm.trans hc6)
        exact Or.inr ⟨hz0, _, hcl6, h3⟩) hx (Or.inr ⟨h0, c4, hcl5, hasg⟩)
  obtain ⟨t, a1, b1⟩ := kk (T.setVm vm') hT X'
  exact ⟨t, st.trans a1, b1⟩
end Rows
section Ends
variable {p : Program} {l : Launch} {e : Env} {R : Room} {s : State} {m : MethodId} {args : Array Value} {below : List Frame} {meth : Method} {c : Code} {H : Heap} {locs : List Loc} {cells slots : Nat} {Q : State → Prop}
variable {mc ms : Nat} {free : Addr → Prop} {A0 A1 : Nat → Prop} {H0 : Heap} {a : Array Value} {ls : Array Slot} {st0 rest : List Value}
variable {Qc : Array Value → State → Outcome → State → Prop} {XC : String → State → State → Prop}
/-- what a body that may throw owes at its end -/
def vx_MQ (below : List Frame) (Qc : Array Value → State → Outcome → State → Prop) (XC : String → State → State → Prop) (a : Array Value) (s : State) (mc ms : Nat) (free : Addr → Prop) : State → Prop := fun t =>
  ∃ o, t.status = .running ∧ Ended t below o ∧ vx_Q Qc XC mc ms free a s o t
theorem vx_ret {g : JFrame} {mc ms : Nat} (k : W p l e R s m args below meth c H locs cells slots (MQ below Qc args s mc ms free) g) : W p l e R s m args below meth c H locs cells slots (vx_MQ below Qc XC args s mc ms free) g := by
  intro T hT X
  obtain ⟨t, a1, o, b1, b2, b3, b4⟩ := k T hT X
  exact ⟨t, a1, o, b1, b2, Or.inl ⟨b3, b4⟩⟩
/-- not caught here: it goes on to the caller -/
theorem vx_widen {g : JFrame} {q : Addr} {k n : Nat} (h1 : cells ≤ k) (h2 : slots ≤ n) (kk : vx_W p l e R s m args below meth c H locs k n Q g q) : vx_W p l e R s m args below meth c H locs cells slots Q g q := fun T hT X => kk T hT (stand_widen X h1 h2)
theorem vx_out {pc : Nat} {E : String} {ce : Cell} {q : Addr} {mc ms : Nat} (hout : ∀ x ∈ c.exceptionTable.toList, covers x pc = false) (hlocks : meth.locks = false) (hcell : H[q]? = some ce) (hv : ce.vm = .none) (hcl : s.vm.findClass E = some ce.cls)
    (hx : ∀ t : State, t.heap = H → s.vm.Alike t.vm → XC E s t) (hf : ∀ z ∈ locs, free z.base) (hc : cells ≤ mc) (hs : slots ≤ ms) :
    vx_W p l e R s m args below meth c H locs cells slots (vx_MQ below Qc XC args s mc ms free) (F0 m pc ls rest) q := by
  intro T hT X
  obtain ⟨st1, hrun, hend, hW, hsm⟩ := X.leaveThrown q (g := F0 m pc ls rest) rfl rfl rfl hout hlocks
  have hcell9 : (T.setFrames (.throwing q :: below)).heap[q]? = some ce := by
    show T.heap[q]? = some ce
    rw [hT]; exact hcell
  exact ⟨_, st1, .threw q, hrun, hend, Or.inr ⟨q, rfl, E, ce, locs, hx _ hT hW.alike, hcell9, hv, hcl, hW, hsm.mono hc hs, hf⟩⟩
theorem vx_frame {U : State} {k n : Nat} (h : s.sameButNew ({ U with vm := s.vm } : State) locs k n) : s.heap.size ≤ U.heap.size ∧ ∀ q : Nat, q < s.heap.size → (∀ z ∈ locs, z.base ≠ q) → U.heap[q]? = s.heap[q]? := by
  obtain ⟨-, h2, -, -, -, h6⟩ := h
  refine ⟨h2, fun q hq hz => ?_⟩
  obtain ⟨c9, e1, e2, e3, e4⟩ := h6 q _ (Array.getElem?_eq_getElem hq)
  have hs : c9.slots = (s.heap[q]).slots := Array.ext_getElem? fun i => e4 i fun hm => hz _ hm rfl
  have h9 : c9 = s.heap[q] := by
    rw [hs] at e2
    exact e2
  have e5 : U.heap[q]? = some c9 := e1
  rw [e5, h9, Array.getElem?_eq_getElem hq]
/-- the words of a throw but the four that speak of the heap -/
def vx_no (w : Cond) : Bool := decide (w ≠ .isRef (.static Bundle.tN "UNASSIGNED_STACK" Bundle.steD)) && decide (w ≠ .isRef (.static Bundle.tN "SUPPRESSED_SENTINEL" Bundle.listD)) && decide (w ≠ .laysStatic Bundle.tN "UNASSIGNED_STACK" Bundle.steD) && decide (w ≠ .laysStatic Bundle.tN "SUPPRESSED_SENTINEL" Bundle.listD)
def vx_at0 (own : String) (ic : Nat) (X : String) (names : List String) : List Cond := (Bundle.ownAtoms0 own ic X names).filter vx_no
def vx_atS (own : String) (ic : Nat) (X : String) (names : List String) : List Cond := (Bundle.ownAtoms own ic X names).filter vx_no
/-- a word that the tables alone decide, or a good one -/
def vx_ot (w : Cond) : Bool := w.onTables || goodWord w
theorem vx_ot_at {args a' : Array Value} {s U : State} {w : Cond} (hW : s.WarmedH U.vm) (hvm : s.vm = U.vm) (hg : vx_ot w = true) (h : w.before args s = true) : w.before a' U = true := by
  simp only [vx_ot, Bool.or_eq_true] at hg
  rcases hg with hg | hg
  · exact va_tabs hg hvm h
  · exact word_at hW (good_of_word hg) h
/-- a list's words: the good ones out of the method's own list, the others by premises of their own -/
theorem vx_hat {args : Array Value} {s : State} {L B : List Cond} (h1 : ∀ w ∈ L.filter goodWord, w.before args s = true) (h2 : ∀ w ∈ L.filter (fun w => !goodWord w), w ∈ B) (h3 : ∀ w ∈ B, w.before args s = true) : ∀ w ∈ L, w.before args s = true := by
  intro w hw
  by_cases g : goodWord w = true
  · exact h1 w (List.mem_filter.mpr ⟨hw, g⟩)
  · refine h3 w (h2 w (List.mem_filter.mpr ⟨hw, ?_⟩))
    show (!goodWord w) = true
    cases hgw : goodWord w
    · rfl
    · exact absurd hgw g
theorem vx_c {args : Array Value} {s : State} {w : Cond} {B : List Cond} (h : w.before args s = true) (t : ∀ w ∈ B, w.before args s = true) : ∀ w' ∈ w :: B, w'.before args s = true := fun w' h' => (List.mem_cons.mp h').elim (fun e => by rw [e]; exact h) (t w')
theorem vx_n {args : Array Value} {s : State} : ∀ w ∈ ([] : List Cond), w.before args s = true := fun _ h => nomatch h
theorem vx_own {args : Array Value} {s : State} {L : List Cond} (h1 : ∀ w ∈ L.filter vx_no, w.before args s = true)
    (hU : (Cond.isRef (.static Bundle.tN "UNASSIGNED_STACK" Bundle.steD)).before args s = true) (hN : (Cond.isRef (.static Bundle.tN "SUPPRESSED_SENTINEL" Bundle.listD)).before args s = true)
    (lU : (Cond.laysStatic Bundle.tN "UNASSIGNED_STACK" Bundle.steD).before args s = true) (lN : (Cond.laysStatic Bundle.tN "SUPPRESSED_SENTINEL" Bundle.listD).before args s = true) : ∀ w ∈ L, w.before args s = true := by
  intro w hw
  by_cases e1 : w = .isRef (.static Bundle.tN "UNASSIGNED_STACK" Bundle.steD)
  · rw [e1]; exact hU
  · by_cases e2 : w = .isRef (.static Bundle.tN "SUPPRESSED_SENTINEL" Bundle.listD)
    · rw [e2]; exact hN
    · by_cases e3 : w = .laysStatic Bundle.tN "UNASSIGNED_STACK" Bundle.steD
      · rw [e3]; exact lU
      · by_cases e4 : w = .laysStatic Bundle.tN "SUPPRESSED_SENTINEL" Bundle.listD
        · rw [e4]; exact lN
        · exact h1 w (List.mem_filter.mpr ⟨hw, by unfold vx_no; rw [decide_eq_true e1, decide_eq_true e2, decide_eq_true e3, decide_eq_true e4]; rfl⟩)
/-- where a static field lies, its class's statics cell in H -/
def vx_L (C n d : String) (A : Nat → Prop) (U : State) (H : Heap) : Prop := ∃ (c : ClassId) (k : Class) (i : Nat) (f : Field) (a : Nat) (cell : Cell), U.vm.findClass C = some c ∧ U.fieldFound? C n d = some (c, k, i, f) ∧ f.isStatic = true ∧ k.statics = some a ∧ H[a]? = some cell ∧ cell.vm.isStatics = true ∧ cell.cls = c ∧ f.slot < cell.slots.size ∧ k.staticTypes[f.slot]? = some f.type ∧ ¬ A a
theorem vx_L.moved {C n d : String} {A : Nat → Prop} {u U : State} {H : Heap} (hvm : u.vm.Alike U.vm) (h : vx_L C n d A u H) : vx_L C n d A U H := by
  obtain ⟨c, k, i, f, a, cell, h1, h2, h3, h4, h5, h6, h7, h8, h9, h10⟩ := h
  obtain ⟨k', hi', he⟩ := State.fieldFound?_setVm hvm h2
  exact ⟨c, k', i, f, a, cell, by rw [hvm.findClass]; exact h1, hi', h3, by rw [he]; exact h4, h5, h6, h7, h8, by rw [he]; exact h9, h10⟩
theorem vx_L.kept {C n d : String} {A : Nat → Prop} {U : State} {H H1 : Heap} (h : vx_L C n d A U H) (hq : ∀ a : Nat, a < H.size → ¬ A a → H1[a]? = H[a]?) : vx_L C n d A U H1 := by
  obtain ⟨c, k, i, f, a, cell, h1, h2, h3, h4, h5, h6, h7, h8, h9, h10⟩ := h
  exact ⟨c, k, i, f, a, cell, h1, h2, h3, h4, by rw [hq a (Array.getElem?_eq_some_iff.mp h5).1 h10]; exact h5, h6, h7, h8, h9, h10⟩
theorem vx_L.narrow {C n d : String} {A B : Nat → Prop} {U : State} {H : Heap} (h : vx_L C n d A U H) (hAB : ∀ q, B q → A q) : vx_L C n d B U H := by
  obtain ⟨c, k, i, f, a, cell, h1, h2, h3, h4, h5, h6, h7, h8, h9, h10⟩ := h
  exact ⟨c, k, i, f, a, cell, h1, h2, h3, h4, h5, h6, h7, h8, h9, fun z => h10 (hAB _ z)⟩
theorem vx_L.word {C n d : String} {A : Nat → Prop} {s : State} {args : Array Value} (h : vx_L C n d A s s.heap) : (Cond.laysStatic C n d).before args s = true := by
  obtain ⟨c, k, i, f, a, cell, h1, h2, h3, h4, h5, h6, h7, h8, h9, -⟩ := h
  show (Cond.laysStatic C n d).holds args s none s [] = true
  exact Cond.laysStatic_of h1 h2 h3 h4 h5 h6 h7 h8 h9
/-- .. and what it holds: null or some reference -/
def vx_Zq (C n d : String) (A : Nat → Prop) (U : State) (H : Heap) : Prop := va_Zq C n d A U H ∧ vx_L C n d A U H
theorem vx_Zq.moved {C n d : String} {A : Nat → Prop} {u U : State} {H : Heap} (hvm : u.vm.Alike U.vm) (h : vx_Zq C n d A u H) : vx_Zq C n d A U H := ⟨va_Zq.moved hvm h.1, vx_L.moved hvm h.2⟩
theorem vx_Zq.kept {C n d : String} {A : Nat → Prop} {U : State} {H H1 : Heap} (h : vx_Zq C n d A U H) (hq : ∀ a : Nat, a < H.size → ¬ A a → H1[a]? = H[a]?) : vx_Zq C n d A U H1 := ⟨va_Zq.kept h.1 hq, vx_L.kept h.2 hq⟩
theorem vx_Zq.narrow {C n d : String} {A B : Nat → Prop} {U : State} {H : Heap} (h : vx_Zq C n d A U H) (hAB : ∀ q, B q → A q) : vx_Zq C n d B U H := ⟨va_Zq.narrow h.1 hAB, vx_L.narrow h.2 hAB⟩
theorem vx_Zqof {args : Array Value} {s : State} {C n d : String} {A : Nat → Prop} (hl : (Cond.laysStatic C n d).before args s = true) (hini : (Cond.initialized C).before args s = true) (h : (Cond.isRef (.static C n d)).before args s = true) (hA : ∀ a : Nat, a < s.heap.size → ¬ A a) : vx_Zq C n d A s s.heap := by
  refine ⟨va_Zqof hl hini h hA, ?_⟩
  obtain ⟨c, k, i, f, a, cell, h1, h2, h3, h4, h5, h6, h7, h8, h9⟩ := Cond.laysStatic_spec hl
  exact ⟨c, k, i, f, a, cell, h1, h2, h3, h4, h5, h6, h7, h8, h9, hA a (Array.getElem?_eq_some_iff.mp h5).1⟩
theorem vx_isRef {C n d : String} {v : Value} {A : Nat → Prop} {s : State} {args : Array Value} (h : va_Z C n d v A s s.heap) (hv : v.isRef = true) : (Cond.isRef (.static C n d)).before args s = true := by
  obtain ⟨cf, kf, fi, f, a, cell, h1, h2, h3, h4, h5, h6, h7, -⟩ := h
  have he : (Term.static C n d).eval args s none [] s = some v := by
    simp [Term.eval, State.fieldNamed?, h1, h2, h4, h5, h6, h7]
  simp only [Cond.before, Cond.holds, Cond.value, he]
  cases v <;> simp_all [Value.isRef]
theorem vx_isRefq {C n d : String} {A : Nat → Prop} {s : State} {args : Array Value} (h : va_Zq C n d A s s.heap) : (Cond.isRef (.static C n d)).before args s = true := by
  rcases h with h | ⟨t, h⟩
  · exact vx_isRef h rfl
  · exact vx_isRef h rfl
/-- the same frame, seen from here: as if the method were called anew in this heap -/
theorem vx_rebase {T : State} (X : Stand p l e R s m args below meth c T locs cells slots) {R' : Room} (hf : R'.frames ≤ R.frames) (hl : R'.locals ≤ R.locals) (hc : cells + R'.cells ≤ R.cells) (hs : slots + R'.slots ≤ R.slots) :
    Stand p l e R' ((T.setVm s.vm).setFrames (.invoking m args :: below)) m args below meth c T [] 0 0 := by
  have htop : (T.setVm s.vm).topJava?.isSome := X.here.top
  have hF : ((T.setVm s.vm).setFrames (.invoking m args :: below)).frames = .invoking m args :: below := State.frames_setFrames _ (State.cur_lt_of_top htop)
  obtain ⟨g₀, hg0⟩ := Option.isSome_iff_exists.mp htop
  obtain ⟨r, hr⟩ := State.topJava?_eq_some.mp hg0
  have hl9 : e.platform.stackLimits (T.setVm s.vm).me = e.platform.stackLimits s.me := X.limits
  have hb9 : (T.setVm s.vm).me.stackBytes = s.me.stackBytes := X.bytes
  refine ⟨X.admits, X.cas, X.clock, hF, ?_, X.hears, X.method, X.code, X.here, X.tail, X.warmed, ?_, ?_, ?_⟩
  · have h := X.room
    have hU : ((T.setVm s.vm).setFrames (.invoking m args :: below)).localsInUse = s.localsInUse := by
      rw [State.localsInUse_invoking hF (meth := meth) (c := c) X.method X.code, State.localsInUse_invoking X.frames X.method X.code]
    simp only [State.hasRoom, Bool.and_eq_true, decide_eq_true_eq] at h ⊢
    obtain ⟨⟨⟨⟨h1, h2, h3, h4, h5, h6⟩, h7⟩, h8⟩, h9⟩ := h
    rw [X.frames, List.length_cons] at h2 h3
    have q1 := X.heapSize
    have q2 := X.used
    simp only [hF, hU, List.length_cons, State.stackLimits_setFrames, State.stackBytes_setFrames, hl9, hb9]
    refine ⟨⟨⟨⟨by omega, by omega, by omega, by omega, by omega, h6⟩, ?_⟩, ?_⟩, X.book⟩
    · show T.heap.size + R'.cells ≤ e.platform.maxCells
      omega
    · show T.slotsUsed + R'.slots ≤ e.platform.maxSlots
      omega
  · rw [State.stackLimits_setFrames]; rfl
  · rw [State.stackBytes_setFrames]; rfl
  · refine ⟨?_, Nat.le_refl _, Nat.le_refl _, ?_, ?_, fun a c9 h9 => ⟨c9, h9, rfl, rfl, fun _ _ => rfl⟩⟩
    · obtain ⟨t, ht, -⟩ := State.frames_cons hr
      show T.setVm s.vm = { ((T.setVm s.vm).setFrames (.invoking m args :: below)).setFrames (T.setVm s.vm).frames with heap := T.heap, slotsUsed := T.slotsUsed }
      rw [State.setFrames_setFrames, State.setFrames_self ht]
      rfl
    · show T.slotsUsed = T.slotsUsed + ((T.heap.toList.drop T.heap.size).map (·.slots.size)).sum
      rw [List.drop_eq_nil_of_le (Nat.le_of_eq Array.length_toList)]
      rfl
    · show ((T.heap.toList.drop T.heap.size).map (·.slots.size)).sum ≤ 0
      rw [List.drop_eq_nil_of_le (Nat.le_of_eq Array.length_toList)]
      exact Nat.le_refl _
/-- 'throw new E()': new; dup; invokespecial; athrow -/
theorem vx_throw0 {cc : ByteArray} {pc : Nat} (hexec : p.tables.exec = Jvm.exec) (hb : c.code = cc) (hl : l.stackTraces = false) {own cls : String} {names : List String} {ik ic mc ms : Nat} {A : Nat → Prop}
    (hown : s.vm.findClass own = some m.cls) (hcls : Bundle.fit cls = true) (hnames : ∀ n ∈ names, Bundle.fit n = true)
    (hk : (Cond.classLink own ik cls).before args s = true) (hini : (Cond.initialized cls).before args s = true) (hat : ∀ w ∈ vx_at0 own ic cls names, w.before args s = true)
    (hgood : ∀ w ∈ Cond.classLink own ik cls :: Cond.initialized cls :: vx_at0 own ic cls names, vx_ot w = true)
    (hU : vx_Zq Bundle.tN "UNASSIGNED_STACK" Bundle.steD A s s.heap) (hN : vx_Zq Bundle.tN "SUPPRESSED_SENTINEL" Bundle.listD A s s.heap) (hS : va_S A s.heap H locs) (hsize : ls.size = c.maxLocals)
    (d0 : decode cc pc = .ok (.new ik, 3)) (d3 : decode cc (pc + 3) = .ok (.dup, 1)) (d4 : decode cc (pc + 4) = .ok (.invokespecial ic, 3)) (d7 : decode cc (pc + 7) = .ok (.athrow, 1))
    (hout : ∀ x ∈ c.exceptionTable.toList, covers x (pc + 7) = false)
    (hRframes : names.length + 3 < R.frames) (hRlocals : (rest.map fun v => v.category).sum + (13 * (names.length + 1) + 42) ≤ R.locals) (hRcells : cells + 1 ≤ R.cells) (hRslots : slots + 6 ≤ R.slots) (hlocks : meth.locks = false)
    (hx : ∀ t : State, s.vm.Alike t.vm → H.size ≤ t.heap.size → (∀ q : Nat, q < H.size → t.heap[q]? = H[q]?) → XC cls s t)
    (hf : ∀ z ∈ locs, free z.base) (hc : cells + 1 ≤ mc) (hs : slots + 6 ≤ ms) :
    W p l e R s m args below meth c H locs cells slots (vx_MQ below Qc XC args s mc ms free) (F0 m pc ls rest) := by
  intro T hT X
  have htr : e.platform.stackTraces = false := (show e.platform.stackTraces = l.stackTraces by rw [X.admits.platform]).trans hl
  have Y := vx_rebase X (R' := { frames := R.frames, locals := R.locals, cells := 1, slots := 6 }) (Nat.le_refl _) (Nat.le_refl _) hRcells hRslots
  obtain ⟨s', hA⟩ : ∃ z, z = (T.setVm s.vm).setFrames (.invoking m args :: below) := ⟨_, rfl⟩
  rw [← hA] at Y
  have hvm : s'.vm = s.vm := by rw [hA]; rfl
  have hhp : s'.heap = H := by rw [hA]; exact hT
  have hW0 : s.WarmedH s'.vm := by rw [hvm]; exact State.WarmedH.refl s
  have hat' : ∀ w ∈ vx_at0 own ic cls names, w.before args s' = true := fun w hw => vx_ot_at hW0 hvm.symm (hgood w (List.mem_cons_of_mem _ (List.mem_cons_of_mem _ hw))) (hat w hw)
  have hk' : (Cond.classLink own ik cls).before args s' = true := vx_ot_at hW0 hvm.symm (hgood _ List.mem_cons_self) hk
  have hini' : (Cond.initialized cls).before args s' = true := vx_ot_at hW0 hvm.symm (hgood _ (List.mem_cons_of_mem _ List.mem_cons_self)) hini
  have hU' : vx_Zq Bundle.tN "UNASSIGNED_STACK" Bundle.steD A s' s'.heap := by rw [hhp]; exact vx_Zq.moved hW0.alike (hU.kept hS.2.1)
  have hN' : vx_Zq Bundle.tN "SUPPRESSED_SENTINEL" Bundle.listD A s' s'.heap := by rw [hhp]; exact vx_Zq.moved hW0.alike (hN.kept hS.2.1)
  have h : ∀ w ∈ Bundle.ownAtoms0 own ic cls names, w.before args s' = true := vx_own hat' (vx_isRefq hU'.1) (vx_isRefq hN'.1) hU'.2.word hN'.2.word
  have hown' : s'.vm.findClass own = some m.cls := by rw [hvm]; exact hown
  have hins : (Cond.instantiable cls 6).before args s' = true := h _ (by simp [Bundle.ownAtoms0])
  obtain ⟨vm₁, cX, kX, hfX, hkX, -, -, X₁, st1⟩ := Y.newCold hexec (own := own) (C := cls) (index := ik) (n := 6) hown' hk' hins hini'
    (g := F0 m pc ls rest) rfl (by rw [hb]; exact d0) (Nat.le_refl _) (Nat.le_refl _)
  generalize hT1 : (T.setVm vm₁).pushCell { cls := cX, slots := kX.instanceTypes.map defaultValue, vm := .none } = T1 at X₁ st1
  have hcat : (Value.ref T.heap.size).category = 1 := rfl
  have hcellA : T1.heap[T.heap.size]? = some (freshCell cX kX) := by rw [← hT1]; exact State.heap_pushCell_size _ _
  have d3' : decode c.code (pc + 3) = .ok (.dup, 1) := by rw [hb]; exact d3
  obtain ⟨U, hsteps, hrun, hend, hW, hsame, ce, hce, hO⟩ := X₁.ctorThrow0 hexec htr (own := own) (cls := cls) (names := names) (ic := ic) hown' hcls hnames h (fun x hx => nomatch hx) hfX hkX hcellA (by rw [hhp, hT]; exact Nat.le_refl _)
    (g := { method := m, pc := pc + 4, locals := ls, stack := .ref T.heap.size :: .ref T.heap.size :: rest, locked := none }) rfl hsize rfl rfl (rest := rest) rfl
    (by rw [hb]; exact d4) (by rw [hb]; exact d7) hout hRframes (by simp only [List.map_cons, List.sum_cons, hcat]; omega) hlocks
  obtain ⟨f1, f2⟩ := vx_frame hsame
  rw [hhp] at f1 f2
  have hWs : s.WarmedH U.vm := State.WarmedH.trans hW0 hW
  have hcl : s.vm.findClass cls = some ce.cls := by
    have h9 := hO.cls
    rw [hvm] at h9
    exact h9
  have hall : s.sameButNew ({ U with vm := s.vm } : State) locs mc ms := by
    subst hA
    obtain ⟨e1, e2⟩ := hsame
    rw [State.setFrames_setFrames] at e1
    have h2 : (T.setVm s.vm).sameButNew ({ U with vm := s.vm } : State) [] (0 + 1) (0 + 6) := ⟨e1, e2⟩
    have h3 := X.same.trans h2
    rw [List.append_nil] at h3
    exact h3.mono hc hs
  refine ⟨U, ?_, .threw T.heap.size, hrun, hend, Or.inr ⟨T.heap.size, rfl, cls, ce, locs, hx U hWs.alike f1 (fun q hq => f2 q hq (fun z hz => nomatch hz)), hce, hO.vm, hcl, hWs, hall, hf⟩⟩
  refine st1 _ ?_
  show Steps p.tables e below (T1.setTop { method := m, pc := pc + 3, locals := ls, stack := .ref T.heap.size :: rest, locked := none }) _
  jvm_step X₁.here [X₁.here.top, hexec, d3', Value.category]
  exact hsteps
/-- 'throw new E("text")': new; dup; ldc; invokespecial; athrow -/
theorem vx_throwS {cc : ByteArray} {pc : Nat} (hexec : p.tables.exec = Jvm.exec) (hb : c.code = cc) (hl : l.stackTraces = false) {own cls text : String} {names : List String} {ik is ic mc ms sa : Nat} {A : Nat → Prop}
    (hown : s.vm.findClass own = some m.cls) (hcls : Bundle.fit cls = true) (hnames : ∀ n ∈ names, Bundle.fit n = true)
    (hk : (Cond.classLink own ik cls).before args s = true) (hini : (Cond.initialized cls).before args s = true) (hstr : vk_R own is text sa s) (hat : ∀ w ∈ vx_atS own ic cls names, w.before args s = true)
    (hgood : ∀ w ∈ Cond.classLink own ik cls :: Cond.initialized cls :: vx_atS own ic cls names, vx_ot w = true)
    (hU : vx_Zq Bundle.tN "UNASSIGNED_STACK" Bundle.steD A s s.heap) (hN : vx_Zq Bundle.tN "SUPPRESSED_SENTINEL" Bundle.listD A s s.heap) (hS : va_S A s.heap H locs) (hsize : ls.size = c.maxLocals)
    (d0 : decode cc pc = .ok (.new ik, 3)) (d3 : decode cc (pc + 3) = .ok (.dup, 1)) (d4 : decode cc (pc + 4) = .ok (.ldc is, 2)) (d6 : decode cc (pc + 6) = .ok (.invokespecial ic, 3)) (d9 : decode cc (pc + 9) = .ok (.athrow, 1))
    (hout : ∀ x ∈ c.exceptionTable.toList, covers x (pc + 9) = false)
    (hRframes : names.length + 3 < R.frames) (hRlocals : (rest.map fun v => v.category).sum + (13 * (names.length + 1) + 43) ≤ R.locals) (hRcells : cells + 1 ≤ R.cells) (hRslots : slots + 6 ≤ R.slots) (hlocks : meth.locks = false)
    (hx : ∀ t : State, s.vm.Alike t.vm → H.size ≤ t.heap.size → (∀ q : Nat, q < H.size → t.heap[q]? = H[q]?) → XC cls s t)
    (hf : ∀ z ∈ locs, free z.base) (hc : cells + 1 ≤ mc) (hs : slots + 6 ≤ ms) :
    W p l e R s m args below meth c H locs cells slots (vx_MQ below Qc XC args s mc ms free) (F0 m pc ls rest) := by
  intro T hT X
  have htr : e.platform.stackTraces = false := (show e.platform.stackTraces = l.stackTraces by rw [X.admits.platform]).trans hl
  have Y := vx_rebase X (R' := { frames := R.frames, locals := R.locals, cells := 1, slots := 6 }) (Nat.le_refl _) (Nat.le_refl _) hRcells hRslots
  obtain ⟨s', hA⟩ : ∃ z, z = (T.setVm s.vm).setFrames (.invoking m args :: below) := ⟨_, rfl⟩
  rw [← hA] at Y
  have hvm : s'.vm = s.vm := by rw [hA]; rfl
  have hhp : s'.heap = H := by rw [hA]; exact hT
  have hW0 : s.WarmedH s'.vm := by rw [hvm]; exact State.WarmedH.refl s
  have hat' : ∀ w ∈ vx_atS own ic cls names, w.before args s' = true := fun w hw => vx_ot_at hW0 hvm.symm (hgood w (List.mem_cons_of_mem _ (List.mem_cons_of_mem _ hw))) (hat w hw)
  have hk' : (Cond.classLink own ik cls).before args s' = true := vx_ot_at hW0 hvm.symm (hgood _ List.mem_cons_self) hk
  have hini' : (Cond.initialized cls).before args s' = true := vx_ot_at hW0 hvm.symm (hgood _ (List.mem_cons_of_mem _ List.mem_cons_self)) hini
  have hU' : vx_Zq Bundle.tN "UNASSIGNED_STACK" Bundle.steD A s' s'.heap := by rw [hhp]; exact vx_Zq.moved hW0.alike (hU.kept hS.2.1)
  have hN' : vx_Zq Bundle.tN "SUPPRESSED_SENTINEL" Bundle.listD A s' s'.heap := by rw [hhp]; exact vx_Zq.moved hW0.alike (hN.kept hS.2.1)
  have h : ∀ w ∈ Bundle.ownAtoms own ic cls names, w.before args s' = true := vx_own hat' (vx_isRefq hU'.1) (vx_isRefq hN'.1) hU'.2.word hN'.2.word
  have hown' : s'.vm.findClass own = some m.cls := by rw [hvm]; exact hown
  have hins : (Cond.instantiable cls 6).before args s' = true := h _ (by simp [Bundle.ownAtoms])
  obtain ⟨vm₁, cX, kX, hfX, hkX, -, -, X₁, st1⟩ := Y.newCold hexec (own := own) (C := cls) (index := ik) (n := 6) hown' hk' hins hini'
    (g := F0 m pc ls rest) rfl (by rw [hb]; exact d0) (Nat.le_refl _) (Nat.le_refl _)
  generalize hT1 : (T.setVm vm₁).pushCell { cls := cX, slots := kX.instanceTypes.map defaultValue, vm := .none } = T1 at X₁ st1
  have hcat : (Value.ref T.heap.size).category = 1 := rfl
  have hcellA : T1.heap[T.heap.size]? = some (freshCell cX kX) := by rw [← hT1]; exact State.heap_pushCell_size _ _
  have d3' : decode c.code (pc + 3) = .ok (.dup, 1) := by rw [hb]; exact d3
  have d4' : decode c.code (pc + 4) = .ok (.ldc is, 2) := by rw [hb]; exact d4
  have hstr' : vk_R own is text sa s' := vk_R.warm hW0 hstr
  obtain ⟨U, hsteps, hrun, hend, hW, hsame, ce, hce, hO⟩ := X₁.ctorThrowS hexec htr (own := own) (cls := cls) (names := names) (ic := ic) hown' hcls hnames h (fun x hx => nomatch hx) hfX hkX hcellA (by rw [hhp, hT]; exact Nat.le_refl _) (msg := .ref sa) rfl
    (g := { method := m, pc := pc + 6, locals := ls, stack := .ref sa :: .ref T.heap.size :: .ref T.heap.size :: rest, locked := none }) rfl hsize rfl rfl (rest := rest) rfl
    (by rw [hb]; exact d6) (by rw [hb]; exact d9) hout hRframes (by simp only [List.map_cons, List.sum_cons, hcat]; omega) hlocks
  obtain ⟨f1, f2⟩ := vx_frame hsame
  rw [hhp] at f1 f2
  have hWs : s.WarmedH U.vm := State.WarmedH.trans hW0 hW
  have hcl : s.vm.findClass cls = some ce.cls := by
    have h9 := hO.cls
    rw [hvm] at h9
    exact h9
  have hall : s.sameButNew ({ U with vm := s.vm } : State) locs mc ms := by
    subst hA
    obtain ⟨e1, e2⟩ := hsame
    rw [State.setFrames_setFrames] at e1
    have h2 : (T.setVm s.vm).sameButNew ({ U with vm := s.vm } : State) [] (0 + 1) (0 + 6) := ⟨e1, e2⟩
    have h3 := X.same.trans h2
    rw [List.append_nil] at h3
    exact h3.mono hc hs
  refine ⟨U, ?_, .threw T.heap.size, hrun, hend, Or.inr ⟨T.heap.size, rfl, cls, ce, locs, hx U hWs.alike f1 (fun q hq => f2 q hq (fun z hz => nomatch hz)), hce, hO.vm, hcl, hWs, hall, hf⟩⟩
  refine st1 _ ?_
  show Steps p.tables e below (T1.setTop { method := m, pc := pc + 3, locals := ls, stack := .ref T.heap.size :: rest, locked := none }) _
  jvm_step X₁.here [X₁.here.top, hexec, d3', Value.category]
  exact X₁.ldcString hexec (own := own) (text := text) (index := is) (a := sa) hown' hstr'.1 hstr'.2
    (g := { method := m, pc := pc + 4, locals := ls, stack := .ref T.heap.size :: .ref T.heap.size :: rest, locked := none }) rfl d4' _ hsteps
/-- 'throw new E("text")', the text by a wide index -/
theorem vx_throwSW {cc : ByteArray} {pc : Nat} (hexec : p.tables.exec = Jvm.exec) (hb : c.code = cc) (hl : l.stackTraces = false) {own cls text : String} {names : List String} {ik is ic mc ms sa : Nat} {A : Nat → Prop}
    (hown : s.vm.findClass own = some m.cls) (hcls : Bundle.fit cls = true) (hnames : ∀ n ∈ names, Bundle.fit n = true)
    (hk : (Cond.classLink own ik cls).before args s = true) (hini : (Cond.initialized cls).before args s = true) (hstr : vk_R own is text sa s) (hat : ∀ w ∈ vx_atS own ic cls names, w.before args s = true)
    (hgood : ∀ w ∈ Cond.classLink own ik cls :: Cond.initialized cls :: vx_atS own ic cls names, vx_ot w = true)
    (hU : vx_Zq Bundle.tN "UNASSIGNED_STACK" Bundle.steD A s s.heap) (hN : vx_Zq Bundle.tN "SUPPRESSED_SENTINEL" Bundle.listD A s s.heap) (hS : va_S A s.heap H locs) (hsize : ls.size = c.maxLocals)
    (d0 : decode cc pc = .ok (.new ik, 3)) (d3 : decode cc (pc + 3) = .ok (.dup, 1)) (d4 : decode cc (pc + 4) = .ok (.ldc_w is, 3)) (d7 : decode cc (pc + 7) = .ok (.invokespecial ic, 3)) (d10 : decode cc (pc + 10) = .ok (.athrow, 1))
    (hout : ∀ x ∈ c.exceptionTable.toList, covers x (pc + 10) = false)
    (hRframes : names.length + 3 < R.frames) (hRlocals : (rest.map fun v => v.category).sum + (13 * (names.length + 1) + 43) ≤ R.locals) (hRcells : cells + 1 ≤ R.cells) (hRslots : slots + 6 ≤ R.slots) (hlocks : meth.locks = false)
    (hx : ∀ t : State, s.vm.Alike t.vm → H.size ≤ t.heap.size → (∀ q : Nat, q < H.size → t.heap[q]? = H[q]?) → XC cls s t)
    (hf : ∀ z ∈ locs, free z.base) (hc : cells + 1 ≤ mc) (hs : slots + 6 ≤ ms) :
    W p l e R s m args below meth c H locs cells slots (vx_MQ below Qc XC args s mc ms free) (F0 m pc ls rest) := by
  intro T hT X
  have htr : e.platform.stackTraces = false := (show e.platform.stackTraces = l.stackTraces by rw [X.admits.platform]).trans hl
  have Y := vx_rebase X (R' := { frames := R.frames, locals := R.locals, cells := 1, slots := 6 }) (Nat.le_refl _) (Nat.le_refl _) hRcells hRslots
  obtain ⟨s', hA⟩ : ∃ z, z = (T.setVm s.vm).setFrames (.invoking m args :: below) := ⟨_, rfl⟩
  rw [← hA] at Y
  have hvm : s'.vm = s.vm := by rw [hA]; rfl
  have hhp : s'.heap = H := by rw [hA]; exact hT
  have hW0 : s.WarmedH s'.vm := by rw [hvm]; exact State.WarmedH.refl s
  have hat' : ∀ w ∈ vx_atS own ic cls names, w.before args s' = true := fun w hw => vx_ot_at hW0 hvm.symm (hgood w (List.mem_cons_of_mem _ (List.mem_cons_of_mem _ hw))) (hat w hw)
  have hk' : (Cond.classLink own ik cls).before args s' = true := vx_ot_at hW0 hvm.symm (hgood _ List.mem_cons_self) hk
  have hini' : (Cond.initialized cls).before args s' = true := vx_ot_at hW0 hvm.symm (hgood _ (List.mem_cons_of_mem _ List.mem_cons_self)) hini
  have hU' : vx_Zq Bundle.tN "UNASSIGNED_STACK" Bundle.steD A s' s'.heap := by rw [hhp]; exact vx_Zq.moved hW0.alike (hU.kept hS.2.1)
  have hN' : vx_Zq Bundle.tN "SUPPRESSED_SENTINEL" Bundle.listD A s' s'.heap := by rw [hhp]; exact vx_Zq.moved hW0.alike (hN.kept hS.2.1)
  have h : ∀ w ∈ Bundle.ownAtoms own ic cls names, w.before args s' = true := vx_own hat' (vx_isRefq hU'.1) (vx_isRefq hN'.1) hU'.2.word hN'.2.word
  have hown' : s'.vm.findClass own = some m.cls := by rw [hvm]; exact hown
  have hins : (Cond.instantiable cls 6).before args s' = true := h _ (by simp [Bundle.ownAtoms])
  obtain ⟨vm₁, cX, kX, hfX, hkX, -, -, X₁, st1⟩ := Y.newCold hexec (own := own) (C := cls) (index := ik) (n := 6) hown' hk' hins hini'
    (g := F0 m pc ls rest) rfl (by rw [hb]; exact d0) (Nat.le_refl _) (Nat.le_refl _)
  generalize hT1 : (T.setVm vm₁).pushCell { cls := cX, slots := kX.instanceTypes.map defaultValue, vm := .none } = T1 at X₁ st1
  have hcat : (Value.ref T.heap.size).category = 1 := rfl
  have hcellA : T1.heap[T.heap.size]? = some (freshCell cX kX) := by rw [← hT1]; exact State.heap_pushCell_size _ _
  have d3' : decode c.code (pc + 3) = .ok (.dup, 1) := by rw [hb]; exact d3
  have d4' : decode c.code (pc + 4) = .ok (.ldc_w is, 3) := by rw [hb]; exact d4
  have hstr' : vk_R own is text sa s' := vk_R.warm hW0 hstr
  obtain ⟨U, hsteps, hrun, hend, hW, hsame, ce, hce, hO⟩ := X₁.ctorThrowS hexec htr (own := own) (cls := cls) (names := names) (ic := ic) hown' hcls hnames h (fun x hx => nomatch hx) hfX hkX hcellA (by rw [hhp, hT]; exact Nat.le_refl _) (msg := .ref sa) rfl
    (g := { method := m, pc := pc + 7, locals := ls, stack := .ref sa :: .ref T.heap.size :: .ref T.heap.size :: rest, locked := none }) rfl hsize rfl rfl (rest := rest) rfl
    (by rw [hb]; exact d7) (by rw [hb]; exact d10) hout hRframes (by simp only [List.map_cons, List.sum_cons, hcat]; omega) hlocks
  obtain ⟨f1, f2⟩ := vx_frame hsame
  rw [hhp] at f1 f2
  have hWs : s.WarmedH U.vm := State.WarmedH.trans hW0 hW
  have hcl : s.vm.findClass cls = some ce.cls := by
    have h9 := hO.cls
    rw [hvm] at h9
    exact h9
  have hall : s.sameButNew ({ U with vm := s.vm } : State) locs mc ms := by
    subst hA
    obtain ⟨e1, e2⟩ := hsame
    rw [State.setFrames_setFrames] at e1
    have h2 : (T.setVm s.vm).sameButNew ({ U with vm := s.vm } : State) [] (0 + 1) (0 + 6) := ⟨e1, e2⟩
    have h3 := X.same.trans h2
    rw [List.append_nil] at h3
    exact h3.mono hc hs
  refine ⟨U, ?_, .threw T.heap.size, hrun, hend, Or.inr ⟨T.heap.size, rfl, cls, ce, locs, hx U hWs.alike f1 (fun q hq => f2 q hq (fun z hz => nomatch hz)), hce, hO.vm, hcl, hWs, hall, hf⟩⟩
  refine st1 _ ?_
  show Steps p.tables e below (T1.setTop { method := m, pc := pc + 3, locals := ls, stack := .ref T.heap.size :: rest, locked := none }) _
  jvm_step X₁.here [X₁.here.top, hexec, d3', Value.category]
  exact X₁.ldcStringW hexec (own := own) (text := text) (index := is) (a := sa) hown' hstr'.1 hstr'.2
    (g := { method := m, pc := pc + 4, locals := ls, stack := .ref T.heap.size :: .ref T.heap.size :: rest, locked := none }) rfl d4' _ hsteps
end Ends
section Bodies
variable {l : Launch}
theorem vx_ofW {y : MethodName} {ws ws' : List Cond} {rm : Room} {Pc : Array Value → State → Prop} {Qc : Array Value → State → Outcome → State → Prop} {XC : String → State → State → Prop} {mc ms : Nat} {free : Addr → Prop} {cc : ByteArray} {maxL : Nat} {ret : Option FieldType}
    (hy : plainName y.cls = true) (hw : ws = Cond.code y cc maxL ret :: ws')
    (body : ∀ p e s m args below meth c s₁, BodyLoose p l y (headSpec ws rm) cc maxL ret e s m args below meth c s₁ → c.maxLocals = maxL → (∀ x ∈ c.exceptionTable.toList, False) → Pc args s →
      W p l e (headSpec ws rm).room s m args below meth c s.heap [] 0 0 (vx_MQ below Qc XC args s mc ms free) (entryFrame m args maxL)) : vx_Met l y ws rm Pc Qc XC mc ms free := by
  refine MetFree.of_bodyS (code := cc) (maxLocals := maxL) (ret := ret) hy ?_ ?_
  · intro args s m h hn
    obtain ⟨meth, c, h1, h2, h3, h4, h5, h6, -, -⟩ := Cond.code_spec hn (atoms_spec (ws := ws) h _ (by rw [hw]; exact List.mem_cons_self))
    exact ⟨meth, c, h1, h2, h3, h4, h5, h6⟩
  · intro p e s m args below meth c s₁ B hml hP _
    have hh0 : s₁.heap = s.heap := by rw [B.state]; rfl
    have ht : ∀ x ∈ c.exceptionTable.toList, False := by
      obtain ⟨meth9, c9, h1, h2, -, -, -, -, h7, -⟩ := Cond.code_spec B.named (atoms_spec (ws := ws) B.pre _ (by rw [hw]; exact List.mem_cons_self))
      cases Option.some.inj (h1.symm.trans B.method)
      cases Option.some.inj (h2.symm.trans (Stand.of_body B).code)
      intro x hx
      rw [Array.isEmpty_iff.mp h7] at hx
      cases hx
    obtain ⟨t, a1, o, b1, b2, b3⟩ := body p e s m args below meth c s₁ B hml ht hP s₁ hh0 (Stand.of_body B)
    exact ⟨t, o, a1, b1, b2, b3⟩
/-- the table of a body with handlers -/
theorem vx_table {p : Program} {x y : MethodName} {S : Spec} {cc bytes : ByteArray} {maxL maxL' : Nat} {ret ret' : Option FieldType} {e : Env} {s s₁ : State} {m : MethodId} {args : Array Value} {below : List Frame} {meth : Method} {c : Code} {hh : List (Nat × Nat × Nat × Nat)}
    (B : BodyLoose p l y S cc maxL ret e s m args below meth c s₁) (h : (Cond.codeWith y bytes maxL' ret' hh).before args s = true) : c.exceptionTable.toList = tableOf hh := by
  obtain ⟨m9, meth9, c9, hn9, h1, h2, -, -, h6, -⟩ := Cond.codeWith_spec h
  cases Option.some.inj (hn9.symm.trans B.named)
  cases Option.some.inj (h1.symm.trans B.method)
  cases Option.some.inj (h2.symm.trans (Stand.of_body B).code)
  rw [← h6, table_eq]
end Bodies
end VXA
/-! ===== END ===== -/
/-! ===== BEGIN a static call of a method with an exception table ===== -/
section VXS
variable {p : Program} {l : Launch} {e : Env} {R : Room} {s : State} {m : MethodId} {args : Array Value} {below : List Frame} {meth : Method} {c : Code} {T : State} {H : Heap} {locs : List Loc} {cells slots : Nat}
abbrev vx_CSW (R : Room) (s : State) (args : Array Value) (own : String) (index : Nat) (y : MethodName) (bytes : ByteArray) (maxL : Nat) (ret : Option FieldType) (hh : List (Nat × Nat × Nat × Nat)) (ws : List Cond) (rm : Room) (mc ms n : Nat) : Prop :=
  (rm.cells = mc ∧ rm.slots = ms ∧ rm.frames + 1 ≤ R.frames ∧ 8 + (maxL + 11) + rm.locals ≤ R.locals ∧ (∀ w ∈ ws, ∀ (a' : Array Value) (U : State), s.WarmedH U.vm → w.before a' U = true) ∧ Cond.codeWith y bytes maxL ret hh ∈ ws) ∧
  (Cond.codeWith y bytes maxL ret hh).before args s = true ∧ (Cond.initialized y.cls).before args s = true ∧ (y.cls ≠ "java/lang/invoke/MethodHandle" ∧ y.cls ≠ "java/lang/invoke/VarHandle") ∧
  (∀ sig, parseMethodDescriptor y.desc = some sig → n = sig.parameters.length) ∧ (Cond.methodLink own index y).before args s = true ∧ (Cond.static y).before args s = true
theorem vx_cwSW {own : String} {index maxL mc ms : Nat} {y : MethodName} {bytes : ByteArray} {ret : Option FieldType} {hh : List (Nat × Nat × Nat × Nat)} {Ts ws ws' : List Cond} {rm : Room} (n : Nat) (ht : ∀ w ∈ Ts, w.before args s = true) (hT : GoodIn Ts (va_wsS own index y ws)) (hw : ws = Cond.codeWith y bytes maxL ret hh :: ws') (hrc : rm.cells = mc) (hrs : rm.slots = ms)
    (hd : y.cls ≠ "java/lang/invoke/MethodHandle" ∧ y.cls ≠ "java/lang/invoke/VarHandle" ∧ (parseMethodDescriptor y.desc).map (fun d => d.parameters.length) = some n) (hR : rm.frames + 1 ≤ R.frames ∧ 8 + (maxL + 11) + rm.locals ≤ R.locals) :
    vx_CSW R s args own index y bytes maxL ret hh ws rm mc ms n := by
  have ok : ∀ w ∈ va_wsS own index y ws, w.before args s = true := fun w h => ht w (hT w h).1
  have hG : GoodIn Ts ws := fun w h => hT w (by unfold va_wsS; exact List.mem_append_right _ h)
  have hc : Cond.codeWith y bytes maxL ret hh ∈ ws := by rw [hw]; exact List.mem_cons_self
  refine ⟨⟨hrc, hrs, hR.1, hR.2, pay_in ht hG, hc⟩, ht _ (hG _ hc).1, ok _ (by simp [va_wsS]), ⟨hd.1, hd.2.1⟩, fun sig h => ?_, ok _ (by simp [va_wsS]), ok _ (by simp [va_wsS])⟩
  have h2 := hd.2.2
  rw [h] at h2
  exact (Option.some.inj h2).symm
theorem vx_callSW (X : Stand p l e R s m args below meth c T locs cells slots) (hexec : p.tables.exec = Jvm.exec) {own : String} {index : Nat} {y : MethodName} {bytes : ByteArray} {maxL : Nat} {ret : Option FieldType} {hh : List (Nat × Nat × Nat × Nat)}
    (hown : s.vm.findClass own = some m.cls) (hlink : (Cond.methodLink own index y).before args s = true) (hstat : (Cond.static y).before args s = true) (hinit : (Cond.initialized y.cls).before args s = true)
    (hcode : (Cond.codeWith y bytes maxL ret hh).before args s = true) (hy : y.cls ≠ "java/lang/invoke/MethodHandle" ∧ y.cls ≠ "java/lang/invoke/VarHandle")
    {W9 : Nat} {Pre : Pt → Array Value → Prop} {Post : Pt → Array Value → Option Value → Pt → Prop} (hK : Back l R p e below s args y 3 W9 Pre Post)
    {g : JFrame} (hg : g.method = m) (hsize : g.locals.size = c.maxLocals) {argsL rest : List Value} (hlen : ∀ sig, parseMethodDescriptor y.desc = some sig → argsL.length = sig.parameters.length)
    (hstack : g.stack = argsL.reverse ++ rest) (hW : 2 * g.monitorRoom + (rest.map fun v => v.category).sum ≤ W9) (hdg : decode c.code g.pc = .ok (.invokestatic index, 3))
    (hpre : ∀ vm₁, s.WarmedH vm₁ → Pre ⟨T.setVm vm₁, locs, cells, slots⟩ argsL.toArray) :
    ∃ (v : Option Value) (vm₁ : Vm) (B : Pt), s.WarmedH vm₁ ∧ Stand p l e R s m args below meth c B.U B.locs B.cells B.slots ∧ Post ⟨T.setVm vm₁, locs, cells, slots⟩ argsL.toArray v B ∧
      ∀ target, Steps p.tables e below (B.U.setTop { g with pc := g.pc + 3, stack := v.toList ++ rest }) target → Steps p.tables e below (T.setTop g) target := by
  obtain ⟨mk, methM, cM, hnamed, hmethM, -, -, -, -, -, -, hsigM⟩ := Cond.codeWith_spec hcode
  have hstatic : methM.isStatic = true := Cond.static_spec hnamed hmethM hstat
  obtain ⟨kP, hkP, -⟩ := className_of_methodNamed hnamed
  have hinitP : kP.init = .initialized := Cond.initialized_spec (findClass_of_methodNamed hnamed) hkP hinit
  obtain ⟨vm₁, X₁, hstep₁⟩ := X.invokestatic hexec hown hlink hnamed hmethM hstatic hkP hinitP hy (g := g) hg (argsL := argsL) (rest := rest) (hlen _ hsigM) hstack hdg
  obtain ⟨v, B, X', hpost, hsteps⟩ := hK m meth c ⟨T.setVm vm₁, locs, cells, slots⟩ { g with stack := rest } (.invokestatic index) mk argsL.toArray X₁ hg hsize hdg hW (X₁.named hnamed) (hpre vm₁ X₁.warmed)
  exact ⟨v, vm₁, B, X₁.warmed, X', hpost, fun target h => hstep₁ _ fun acts => by rw [doInvoke_state]; exact hsteps.trans h⟩
theorem vx_runSW {y : MethodName} {bytes cc : ByteArray} {maxL nL mc ms n index : Nat} {ret : Option FieldType} {hh : List (Nat × Nat × Nat × Nat)} {ws : List Cond} {rm : Room} {Pc : Array Value → State → Prop} {Qc : Array Value → State → Outcome → State → Prop} {free : Addr → Prop} {Ts : List Cond} {own : String} {As rest : List Value} {g : JFrame}
    (S : CallFix p m c cc nL s args Ts own) (hM : Met l y ws rm Pc Qc mc ms free) (cw : vx_CSW R s args own index y bytes maxL ret hh ws rm mc ms n) (hp : PreS s H Pc As)
    (hg : g.method = m) (hn : As.length = n) (hsize : g.locals.size = nL) (hstack : g.stack = As.reverse ++ rest) (hW : 2 * g.monitorRoom + (rest.map fun v => v.category).sum ≤ 8) (hdg : decode cc g.pc = .ok (.invokestatic index, 3)) (hf : cells + mc ≤ R.cells ∧ slots + ms ≤ R.slots) :
    va_Run p l e R s m args below meth c H locs cells slots mc ms g rest (Qc As.toArray) (free) := by
  obtain ⟨⟨hrc, hrs, hfr, hlo, hws, hcw⟩, hcode, hini, hy, hlen, hl, hstt⟩ := cw
  have hK : Back l R p e below s args y 3 8 (PreOf R mc ms Pc) (PostOf Qc mc ms free) := va_backW (hh := hh) (bytes := bytes) (maxL := maxL) (ret := ret) hM hp.1 hrc hrs hfr hlo hws hcw (fun a' U hW => word_at hW (Or.inl (by first | rfl | simp [Cond.onTables, Cond.keeps, Cond.steady])) hini)
  obtain ⟨hx, hb, hml, ho, -⟩ := S
  intro T hT X
  obtain ⟨v, vm₁, ⟨U', l2, c2, s2⟩, hW₁, X', ⟨g', mk, t, L, e1, e2, hq, h1, hL, h2, h3⟩, st⟩ := vx_callSW X hx (hh := hh) (bytes := bytes) (maxL := maxL) (ret := ret) ho hl hstt hini hcode hy hK hg (hsize.trans hml.symm) (argsL := As) (rest := rest) (fun sig h => hn.trans (hlen sig h)) hstack hW (by rw [hb]; exact hdg)
    (fun vm₁ hW₁ => ⟨hf.1, hf.2, hp.2 (T.setVm vm₁) hT hW₁⟩)
  dsimp only [Pt.U, Pt.locs, Pt.cells, Pt.slots] at X' e1 e2 h1 h2 h3 st
  subst h1; subst h2; subst h3
  exact ⟨v, (T.setVm vm₁).calling g' mk As.toArray, t, U', L, hT, X', hL, e1, e2, hq, st⟩
/-- not caught here, past rows that name other classes: it goes on to the caller -/
theorem vx_outP {p : Program} {l : Launch} {e : Env} {R : Room} {s : State} {m : MethodId} {args : Array Value} {below : List Frame} {meth : Method} {c : Code} {H : Heap} {locs : List Loc} {cells slots : Nat} {free : Addr → Prop} {ls : Array Slot} {rest : List Value} {Qc : Array Value → State → Outcome → State → Prop} {XC : String → State → State → Prop}
    {pc : Nat} {own E : String} {ce : Cell} {q : Addr} {mc ms : Nat} (hown : s.vm.findClass own = some m.cls) (hlocks : meth.locks = false)
    (hpass : ∀ z ∈ c.exceptionTable.toList, covers z pc = false ∨ (z.catchType ≠ 0 ∧ ∃ nm : String, (Cond.classLink own z.catchType nm).before args s = true ∧ va_Nc E nm s)) (hcell : H[q]? = some ce) (hv : ce.vm = .none) (hcl : s.vm.findClass E = some ce.cls)
    (hx : ∀ t : State, t.heap = H → s.vm.Alike t.vm → XC E s t) (hf : ∀ z ∈ locs, free z.base) (hc : cells ≤ mc) (hs : slots ≤ ms) :
    vx_W p l e R s m args below meth c H locs cells slots (vx_MQ below Qc XC args s mc ms free) (F0 m pc ls rest) q := by
  intro T hT X
  have hpl : e.platform.magicAccessors = ({} : Platform).magicAccessors := by rw [X.admits.platform]
  obtain ⟨vm', hW', X', st⟩ := X.outThrough hlocks q (g := F0 m pc ls rest) rfl rfl rfl (cell := ce) (by rw [hT]; exact hcell) (by rw [hv]; rfl)
    (by obtain ⟨k9, h9, -⟩ := Vm.findClass_spec hcl; exact ⟨k9, h9⟩) (fun z hz => by
      rcases hpass z hz with h | ⟨hz0, nm, hl1, hn1⟩
      · exact Or.inl h
      · obtain ⟨c6, hc6, hcl6⟩ := Cond.classLink_spec hown hl1 e.platform hpl
        obtain ⟨a8, b8, h1, h2, h3⟩ := hn1
        cases Option.some.inj (h1.symm.trans hcl)
        cases Option.some.inj (h2.symm.trans hc6)
        exact Or.inr ⟨hz0, _, hcl6, h3⟩)
  obtain ⟨g₀, hfr⟩ := X'.frames_eq
  have hcell9 : ((T.setVm vm').setFrames (.throwing q :: below)).heap[q]? = some ce := by
    show T.heap[q]? = some ce
    rw [hT]; exact hcell
  have hend : Ended ((T.setVm vm').setFrames (.throwing q :: below)) below (.threw q) := State.frames_setFrames _ (State.cur_lt_of_frames hfr)
  refine ⟨(T.setVm vm').setFrames (.throwing q :: below), ?_, .threw q, X'.here.running, hend, Or.inr ⟨q, rfl, E, ce, locs, hx _ hT (X'.ends _).1.alike, hcell9, hv, hcl, (X'.ends _).1, (X'.ends _).2.mono hc hs, hf⟩⟩
  rw [X.pushThrowing_eq]
  exact st
/-- a thing of a world lies in the heap -/
theorem vx_lt {D : va_G} {cl : List vw_C} {ws : va_W} {H1 : Heap} (h : va_P D cl ws H1) {k : Nat} {q : Nat × va_E} (hk : ws[k]? = some q) : q.1 < H1.size := (h k q hk).lt
end VXS
/-! ===== END ===== -/
/-! ===== BEGIN methods with a table of their own: called by a name, returning or throwing ===== -/
section VXH
/-! vx_backW, vx_callVX, vx_callSX, vx_callVW, vx_runVW, vx_runVX, vx_runSX, vx_ofWH follow the same proofs as their sisters above (Free/Laws.lean, Shelf42/LK1.lean); vx_outP calls Shelf42/NT130.lean (outThrough). -/
section
variable {l : Launch} {R : Room} {p : Program} {e : Env} {below : List Frame} {s : State} {sargs : Array Value} {y : MethodName} {len W9 : Nat}
theorem vx_backW {ws : List Cond} {rm : Room} {Pc : Array Value → State → Prop} {Qc : Array Value → State → Outcome → State → Prop} {XC : String → State → State → Prop} {mc ms : Nat} {free : Addr → Prop} {bytes : ByteArray} {maxL : Nat} {ret : Option FieldType} {hh : List (Nat × Nat × Nat × Nat)}
    (hM : vx_Met l y ws rm Pc Qc XC mc ms free) (hblind : FrameBlind Pc) (hrc : rm.cells = mc) (hrs : rm.slots = ms)
    (hframes : rm.frames + 1 ≤ R.frames) (hlocals : W9 + (maxL + 11) + rm.locals ≤ R.locals)
    (hws : ∀ w ∈ ws, ∀ a' U, s.WarmedH U.vm → w.before a' U = true) (hcode : Cond.codeWith y bytes maxL ret hh ∈ ws) (hinit : ∀ a' U, s.WarmedH U.vm → (Cond.initialized y.cls).before a' U = true) :
    vx_Back l R p e below s sargs y len W9 (PreOf R mc ms Pc) (PostOf Qc mc ms free) (vx_Post XC mc ms free) := by
  intro m meth c A g ig mk a X hg hsize hdg hW hn hp
  have h1 : (headSpec ws rm).pre.before a A.U = true := atoms_intro fun w hw => hws w hw _ _ X.warmed
  have h2 : (Cond.codeWith y bytes maxL ret hh).before a A.U = true := hws _ hcode _ _ X.warmed
  have h3 : (Cond.initialized y.cls).before a A.U = true := hinit _ _ X.warmed
  have h4 : A.cells + (headSpec ws rm).room.cells ≤ R.cells := by rw [show (headSpec ws rm).room.cells = mc from hrc]; exact hp.1
  have h5 : A.slots + (headSpec ws rm).room.slots ≤ R.slots := by rw [show (headSpec ws rm).room.slots = ms from hrs]; exact hp.2.1
  have hPc : Pc a (A.U.calling g mk a) := hblind _ _ _ _ hp.2.2
  obtain ⟨U, Ls, c0, s0⟩ := A
  dsimp only [Pt.U, Pt.locs, Pt.cells, Pt.slots] at h1 h2 h3 h4 h5 X hn hPc ⊢
  obtain ⟨m9, methY, cY, hn9, hmY, hcY, -, hlY, -⟩ := Cond.codeWith_spec h2
  cases Option.some.inj (hn9.symm.trans hn)
  obtain ⟨kY, hkY, -⟩ := className_of_methodNamed hn
  have hinitY : kY.init = .initialized := Cond.initialized_spec (findClass_of_methodNamed hn) hkY h3
  have h : At U g.method c below := by rw [hg]; exact X.here
  have hlocals9 : W9 + (maxL + 11) + (headSpec ws rm).room.locals ≤ R.locals := hlocals
  have happ : (headSpec ws rm).appliesLoose y e.platform (U.calling g mk a) = true :=
    Spec.appliesLoose_calling (g := g) h hdg hn hkY hinitY
      (X.room_calling (g := g) (R' := (headSpec ws rm).room) hsize hmY hcY hframes (by rw [hlY]; omega) h4 h5) h1
  obtain ⟨mid, hmid⟩ := h.above
  have hfr : (U.setTop g).frames = (.java g :: mid) ++ below := by rw [State.frames_setTop' g h.top, hmid]; rfl
  obtain ⟨o, s₂, hsteps, -, hend, hq⟩ := Steps.callFree hM p X.admits X.cas X.clock (acts := []) hfr happ hPc trivial
  have hq' : vx_Q Qc XC mc ms free a (U.calling g mk a) o s₂ := hq
  rw [State.frames_setTop' g h.top] at hend
  obtain ⟨g₀, hg0⟩ := Option.isSome_iff_exists.mp h.top
  obtain ⟨r, hr⟩ := State.topJava?_eq_some.mp hg0
  have hr' : (({ U with heap := s₂.heap, slotsUsed := s₂.slotsUsed } : State).setVm s₂.vm).frames = .java g₀ :: r := hr
  rcases hq' with ⟨hqc, L, hfe, hL⟩ | ⟨q, rfl, E, ce, L, hx, hce, hcv, hcl, hW₂, hsm, hL⟩
  · obtain ⟨⟨v, rfl⟩, hW₂, e2, q2, q3, q4, q5, q6⟩ := id hfe
    have e3 : s₂ = ({ (U.calling g mk a).setFrames s₂.frames with heap := s₂.heap, slotsUsed := s₂.slotsUsed } : State).setVm s₂.vm := by
      have : s₂ = ({ s₂ with vm := (U.calling g mk a).vm } : State).setVm s₂.vm := rfl
      rw [e2] at this
      exact this
    obtain ⟨c₂, i₂, len₂, hc₂, hd₂, hf₂⟩ := hend
    have hW' : U.WarmedH s₂.vm := hW₂
    have hcc : c₂ = c := by
      have h1 : s₂.code? g.method = U.code? g.method := by
        rw [State.code?_eq, State.code?_eq, hW'.alike.method?]
      exact Option.some.inj (hc₂.symm.trans (h1.trans h.code))
    subst hcc
    have hlen : len₂ = len := by rw [hdg] at hd₂; cases hd₂; rfl
    subst hlen
    have hs₂ : s₂ = (({ U with heap := s₂.heap, slotsUsed := s₂.slotsUsed } : State).setVm s₂.vm).setTop { g with pc := g.pc + len₂, stack := v.toList ++ g.stack } := by
      refine e3.trans ?_
      rw [hf₂, State.calling_eq h.top, State.setFrames_setFrames, State.setTop_of_frames _ hr', hr]
      rfl
    have hsame : U.sameButNew ({ U with heap := s₂.heap, slotsUsed := s₂.slotsUsed } : State) L mc ms := by
      refine ⟨?_, q2, q3, q4, q5, q6⟩
      obtain ⟨t, ht, -⟩ := State.frames_cons hr
      show ({ U with heap := s₂.heap, slotsUsed := s₂.slotsUsed } : State) = { U.setFrames U.frames with heap := s₂.heap, slotsUsed := s₂.slotsUsed }
      rw [State.setFrames_self ht]
    subst hg
    refine Or.inl ⟨v, ⟨(({ U with heap := s₂.heap, slotsUsed := s₂.slotsUsed } : State).setVm s₂.vm), Ls ++ L, c0 + mc, s0 + ms⟩,
      ⟨X.admits, X.cas, X.clock, X.frames, X.room, X.hears, X.method, X.code, (X.here.setHeapUsed s₂.heap s₂.slotsUsed).setVm hW'.alike, X.tail, State.WarmedH.trans X.warmed hW', X.limits, X.bytes, X.same.trans (hsame.setVm s.vm)⟩,
      ⟨g, mk, s₂, L, rfl, rfl, hqc, rfl, hL, rfl, rfl⟩, ?_⟩
    show Steps p.tables e below _ ((({ U with heap := s₂.heap, slotsUsed := s₂.slotsUsed } : State).setVm s₂.vm).setTop { g with pc := g.pc + len₂, stack := v.toList ++ g.stack })
    rw [← hs₂]
    exact hsteps
  · obtain ⟨e2, q2, q3, q4, q5, q6⟩ := id hsm
    have e3 : s₂ = ({ (U.calling g mk a).setFrames s₂.frames with heap := s₂.heap, slotsUsed := s₂.slotsUsed } : State).setVm s₂.vm := by
      have : s₂ = ({ s₂ with vm := (U.calling g mk a).vm } : State).setVm s₂.vm := rfl
      rw [e2] at this
      exact this
    have hf₂ : s₂.frames = .throwing q :: .java g :: U.frames.tail := hend
    have hW' : U.WarmedH s₂.vm := hW₂
    have hs₂ : s₂ = ((({ U with heap := s₂.heap, slotsUsed := s₂.slotsUsed } : State).setVm s₂.vm).setTop g).pushFrame (.throwing q) := by
      refine e3.trans ?_
      rw [hf₂, State.calling_eq h.top, State.setFrames_setFrames, State.pushFrame, State.frames_setTop _ hr', State.setTop_of_frames _ hr', State.setFrames_setFrames, hr]
      rfl
    have hsame : U.sameButNew ({ U with heap := s₂.heap, slotsUsed := s₂.slotsUsed } : State) L mc ms := by
      refine ⟨?_, q2, q3, q4, q5, q6⟩
      obtain ⟨t, ht, -⟩ := State.frames_cons hr
      show ({ U with heap := s₂.heap, slotsUsed := s₂.slotsUsed } : State) = { U.setFrames U.frames with heap := s₂.heap, slotsUsed := s₂.slotsUsed }
      rw [State.setFrames_self ht]
    subst hg
    refine Or.inr ⟨q, ⟨(({ U with heap := s₂.heap, slotsUsed := s₂.slotsUsed } : State).setVm s₂.vm), Ls ++ L, c0 + mc, s0 + ms⟩,
      ⟨X.admits, X.cas, X.clock, X.frames, X.room, X.hears, X.method, X.code, (X.here.setHeapUsed s₂.heap s₂.slotsUsed).setVm hW'.alike, X.tail, State.WarmedH.trans X.warmed hW', X.limits, X.bytes, X.same.trans (hsame.setVm s.vm)⟩,
      ⟨g, mk, s₂, L, E, ce, rfl, rfl, hx, hce, hcv, hcl, rfl, hL, rfl, rfl⟩, ?_⟩
    show Steps p.tables e below _ (((({ U with heap := s₂.heap, slotsUsed := s₂.slotsUsed } : State).setVm s₂.vm).setTop g).pushFrame (.throwing q))
    rw [← hs₂]
    exact hsteps
end
variable {p : Program} {l : Launch} {e : Env} {R : Room} {s : State} {m : MethodId} {args : Array Value} {below : List Frame} {meth : Method} {c : Code} {T : State} {H : Heap} {locs : List Loc} {cells slots : Nat}
theorem vx_callVX (X : Stand p l e R s m args below meth c T locs cells slots) (hexec : p.tables.exec = Jvm.exec) {own C : String} {index : Nat} {y : MethodName} {bytes : ByteArray} {maxL : Nat} {ret : Option FieldType} {hh : List (Nat × Nat × Nat × Nat)}
    (hown : s.vm.findClass own = some m.cls) (hlink : (Cond.methodLink own index y).before args s = true) (hinst : (Cond.instanceMethod y).before args s = true) (hsel : (Cond.selects C y y).before args s = true)
    (hcode : (Cond.codeWith y bytes maxL ret hh).before args s = true) (hy : y.cls ≠ "java/lang/invoke/MethodHandle" ∧ y.cls ≠ "java/lang/invoke/VarHandle")
    {W9 : Nat} {Pre : Pt → Array Value → Prop} {Post : Pt → Array Value → Option Value → Pt → Prop} {PostX : Pt → Array Value → Addr → Pt → Prop} (hK : vx_Back l R p e below s args y 3 W9 Pre Post PostX)
    {b : Addr} {cellB : Cell} (hcell : T.heap[b]? = some cellB) (hobj : cellB.vm.isStatics = false) (hcls : s.vm.findClass C = some cellB.cls)
    {g : JFrame} (hg : g.method = m) (hsize : g.locals.size = c.maxLocals) {argsL rest : List Value} (hlen : ∀ sig, parseMethodDescriptor y.desc = some sig → argsL.length = sig.parameters.length)
    (hstack : g.stack = argsL.reverse ++ .ref b :: rest) (hW : 2 * g.monitorRoom + (rest.map fun v => v.category).sum ≤ W9) (hdg : decode c.code g.pc = .ok (.invokevirtual index, 3))
    (hpre : ∀ vm₁, s.WarmedH vm₁ → Pre ⟨T.setVm vm₁, locs, cells, slots⟩ (Value.ref b :: argsL).toArray) :
    (∃ (v : Option Value) (vm₁ : Vm) (B : Pt), s.WarmedH vm₁ ∧ Stand p l e R s m args below meth c B.U B.locs B.cells B.slots ∧ Post ⟨T.setVm vm₁, locs, cells, slots⟩ (Value.ref b :: argsL).toArray v B ∧
      ∀ target, Steps p.tables e below (B.U.setTop { g with pc := g.pc + 3, stack := v.toList ++ rest }) target → Steps p.tables e below (T.setTop g) target) ∨
    (∃ (q : Addr) (vm₁ : Vm) (B : Pt), s.WarmedH vm₁ ∧ Stand p l e R s m args below meth c B.U B.locs B.cells B.slots ∧ PostX ⟨T.setVm vm₁, locs, cells, slots⟩ (Value.ref b :: argsL).toArray q B ∧
      Steps p.tables e below (T.setTop g) ((B.U.setTop { g with stack := rest }).pushFrame (.throwing q))) := by
  obtain ⟨mk, methM, hnamed, hmethM, hstM, habM⟩ := Cond.instanceMethod_spec hinst
  obtain ⟨m8, methM', cM, hn8, hmethM', -, -, -, -, -, -, hsigM⟩ := Cond.codeWith_spec hcode
  cases Option.some.inj (hn8.symm.trans hnamed)
  cases hmethM.symm.trans hmethM'
  obtain ⟨c2, r2, m2, q1, q2, q3, q4, kP, hkP, hkPi⟩ := Cond.selects_spec hsel
  cases hcls.symm.trans q1
  cases (State.methodFound?_of_named hnamed hy).symm.trans q2
  cases hnamed.symm.trans q3
  have hselP : selectMethod e.platform s.vm cellB.cls mk = .method mk := by rw [Launch.admits_selectMethod X.admits]; exact q4
  obtain ⟨vm₁, X₁, hstep₁⟩ := X.invokevirtual hexec hown hlink hnamed hmethM hstM hkP hkPi hy (a := b) (cell := cellB) hcell
    (fun z h => by rw [h] at hobj; cases hobj) hselP hmethM habM hkP hkPi (g := g) hg (argsL := argsL) (rest := rest) (hlen _ hsigM) hstack hdg
  rcases hK m meth c ⟨T.setVm vm₁, locs, cells, slots⟩ { g with stack := rest } (.invokevirtual index) mk (Value.ref b :: argsL).toArray X₁ hg hsize hdg hW (X₁.named hnamed) (hpre vm₁ X₁.warmed) with ⟨v, B, X', hpost, hsteps⟩ | ⟨q, B, X', hpost, hsteps⟩
  · exact Or.inl ⟨v, vm₁, B, X₁.warmed, X', hpost, fun target h => hstep₁ _ fun acts => by rw [doInvoke_state]; exact hsteps.trans h⟩
  · exact Or.inr ⟨q, vm₁, B, X₁.warmed, X', hpost, hstep₁ _ fun acts => by rw [doInvoke_state]; exact hsteps⟩
theorem vx_callSX (X : Stand p l e R s m args below meth c T locs cells slots) (hexec : p.tables.exec = Jvm.exec) {own : String} {index : Nat} {y : MethodName} {bytes : ByteArray} {maxL : Nat} {ret : Option FieldType} {hh : List (Nat × Nat × Nat × Nat)}
    (hown : s.vm.findClass own = some m.cls) (hlink : (Cond.methodLink own index y).before args s = true) (hstat : (Cond.static y).before args s = true) (hinit : (Cond.initialized y.cls).before args s = true)
    (hcode : (Cond.codeWith y bytes maxL ret hh).before args s = true) (hy : y.cls ≠ "java/lang/invoke/MethodHandle" ∧ y.cls ≠ "java/lang/invoke/VarHandle")
    {W9 : Nat} {Pre : Pt → Array Value → Prop} {Post : Pt → Array Value → Option Value → Pt → Prop} {PostX : Pt → Array Value → Addr → Pt → Prop} (hK : vx_Back l R p e below s args y 3 W9 Pre Post PostX)
    {g : JFrame} (hg : g.method = m) (hsize : g.locals.size = c.maxLocals) {argsL rest : List Value} (hlen : ∀ sig, parseMethodDescriptor y.desc = some sig → argsL.length = sig.parameters.length)
    (hstack : g.stack = argsL.reverse ++ rest) (hW : 2 * g.monitorRoom + (rest.map fun v => v.category).sum ≤ W9) (hdg : decode c.code g.pc = .ok (.invokestatic index, 3))
    (hpre : ∀ vm₁, s.WarmedH vm₁ → Pre ⟨T.setVm vm₁, locs, cells, slots⟩ argsL.toArray) :
    (∃ (v : Option Value) (vm₁ : Vm) (B : Pt), s.WarmedH vm₁ ∧ Stand p l e R s m args below meth c B.U B.locs B.cells B.slots ∧ Post ⟨T.setVm vm₁, locs, cells, slots⟩ argsL.toArray v B ∧
      ∀ target, Steps p.tables e below (B.U.setTop { g with pc := g.pc + 3, stack := v.toList ++ rest }) target → Steps p.tables e below (T.setTop g) target) ∨
    (∃ (q : Addr) (vm₁ : Vm) (B : Pt), s.WarmedH vm₁ ∧ Stand p l e R s m args below meth c B.U B.locs B.cells B.slots ∧ PostX ⟨T.setVm vm₁, locs, cells, slots⟩ argsL.toArray q B ∧
      Steps p.tables e below (T.setTop g) ((B.U.setTop { g with stack := rest }).pushFrame (.throwing q))) := by
  obtain ⟨mk, methM, cM, hnamed, hmethM, -, -, -, -, -, -, hsigM⟩ := Cond.codeWith_spec hcode
  have hstatic : methM.isStatic = true := Cond.static_spec hnamed hmethM hstat
  obtain ⟨kP, hkP, -⟩ := className_of_methodNamed hnamed
  have hinitP : kP.init = .initialized := Cond.initialized_spec (findClass_of_methodNamed hnamed) hkP hinit
  obtain ⟨vm₁, X₁, hstep₁⟩ := X.invokestatic hexec hown hlink hnamed hmethM hstatic hkP hinitP hy (g := g) hg (argsL := argsL) (rest := rest) (hlen _ hsigM) hstack hdg
  rcases hK m meth c ⟨T.setVm vm₁, locs, cells, slots⟩ { g with stack := rest } (.invokestatic index) mk argsL.toArray X₁ hg hsize hdg hW (X₁.named hnamed) (hpre vm₁ X₁.warmed) with ⟨v, B, X', hpost, hsteps⟩ | ⟨q, B, X', hpost, hsteps⟩
  · exact Or.inl ⟨v, vm₁, B, X₁.warmed, X', hpost, fun target h => hstep₁ _ fun acts => by rw [doInvoke_state]; exact hsteps.trans h⟩
  · exact Or.inr ⟨q, vm₁, B, X₁.warmed, X', hpost, hstep₁ _ fun acts => by rw [doInvoke_state]; exact hsteps⟩
theorem vx_callVW (X : Stand p l e R s m args below meth c T locs cells slots) (hexec : p.tables.exec = Jvm.exec) {own C : String} {index : Nat} {y : MethodName} {bytes : ByteArray} {maxL : Nat} {ret : Option FieldType} {hh : List (Nat × Nat × Nat × Nat)}
    (hown : s.vm.findClass own = some m.cls) (hlink : (Cond.methodLink own index y).before args s = true) (hinst : (Cond.instanceMethod y).before args s = true) (hsel : (Cond.selects C y y).before args s = true)
    (hcode : (Cond.codeWith y bytes maxL ret hh).before args s = true) (hy : y.cls ≠ "java/lang/invoke/MethodHandle" ∧ y.cls ≠ "java/lang/invoke/VarHandle")
    {W9 : Nat} {Pre : Pt → Array Value → Prop} {Post : Pt → Array Value → Option Value → Pt → Prop} (hK : Back l R p e below s args y 3 W9 Pre Post)
    {b : Addr} {cellB : Cell} (hcell : T.heap[b]? = some cellB) (hobj : cellB.vm.isStatics = false) (hcls : s.vm.findClass C = some cellB.cls)
    {g : JFrame} (hg : g.method = m) (hsize : g.locals.size = c.maxLocals) {argsL rest : List Value} (hlen : ∀ sig, parseMethodDescriptor y.desc = some sig → argsL.length = sig.parameters.length)
    (hstack : g.stack = argsL.reverse ++ .ref b :: rest) (hW : 2 * g.monitorRoom + (rest.map fun v => v.category).sum ≤ W9) (hdg : decode c.code g.pc = .ok (.invokevirtual index, 3))
    (hpre : ∀ vm₁, s.WarmedH vm₁ → Pre ⟨T.setVm vm₁, locs, cells, slots⟩ (Value.ref b :: argsL).toArray) :
    ∃ (v : Option Value) (vm₁ : Vm) (B : Pt), s.WarmedH vm₁ ∧ Stand p l e R s m args below meth c B.U B.locs B.cells B.slots ∧ Post ⟨T.setVm vm₁, locs, cells, slots⟩ (Value.ref b :: argsL).toArray v B ∧
      ∀ target, Steps p.tables e below (B.U.setTop { g with pc := g.pc + 3, stack := v.toList ++ rest }) target → Steps p.tables e below (T.setTop g) target := by
  obtain ⟨mk, methM, hnamed, hmethM, hstM, habM⟩ := Cond.instanceMethod_spec hinst
  obtain ⟨m8, methM', cM, hn8, hmethM', -, -, -, -, -, -, hsigM⟩ := Cond.codeWith_spec hcode
  cases Option.some.inj (hn8.symm.trans hnamed)
  cases hmethM.symm.trans hmethM'
  obtain ⟨c2, r2, m2, q1, q2, q3, q4, kP, hkP, hkPi⟩ := Cond.selects_spec hsel
  cases hcls.symm.trans q1
  cases (State.methodFound?_of_named hnamed hy).symm.trans q2
  cases hnamed.symm.trans q3
  have hselP : selectMethod e.platform s.vm cellB.cls mk = .method mk := by rw [Launch.admits_selectMethod X.admits]; exact q4
  obtain ⟨vm₁, X₁, hstep₁⟩ := X.invokevirtual hexec hown hlink hnamed hmethM hstM hkP hkPi hy (a := b) (cell := cellB) hcell
    (fun z h => by rw [h] at hobj; cases hobj) hselP hmethM habM hkP hkPi (g := g) hg (argsL := argsL) (rest := rest) (hlen _ hsigM) hstack hdg
  obtain ⟨v, B, X', hpost, hsteps⟩ := hK m meth c ⟨T.setVm vm₁, locs, cells, slots⟩ { g with stack := rest } (.invokevirtual index) mk (Value.ref b :: argsL).toArray X₁ hg hsize hdg hW (X₁.named hnamed) (hpre vm₁ X₁.warmed)
  exact ⟨v, vm₁, B, X₁.warmed, X', hpost, fun target h => hstep₁ _ fun acts => by rw [doInvoke_state]; exact hsteps.trans h⟩
abbrev vx_CVW (R : Room) (s : State) (args : Array Value) (own C : String) (index : Nat) (y : MethodName) (bytes : ByteArray) (maxL : Nat) (ret : Option FieldType) (hh : List (Nat × Nat × Nat × Nat)) (ws : List Cond) (rm : Room) (mc ms n : Nat) : Prop :=
  (rm.cells = mc ∧ rm.slots = ms ∧ rm.frames + 1 ≤ R.frames ∧ 8 + (maxL + 11) + rm.locals ≤ R.locals ∧ (∀ w ∈ ws, ∀ (a' : Array Value) (U : State), s.WarmedH U.vm → w.before a' U = true) ∧ Cond.codeWith y bytes maxL ret hh ∈ ws) ∧
  (Cond.codeWith y bytes maxL ret hh).before args s = true ∧ (Cond.initialized y.cls).before args s = true ∧ (y.cls ≠ "java/lang/invoke/MethodHandle" ∧ y.cls ≠ "java/lang/invoke/VarHandle") ∧
  (∀ sig, parseMethodDescriptor y.desc = some sig → n = sig.parameters.length) ∧ (Cond.methodLink own index y).before args s = true ∧ (Cond.instanceMethod y).before args s = true ∧ (Cond.selects C y y).before args s = true
theorem vx_cwVW {own C : String} {index maxL mc ms : Nat} {y : MethodName} {bytes : ByteArray} {ret : Option FieldType} {hh : List (Nat × Nat × Nat × Nat)} {Ts ws ws' : List Cond} {rm : Room} (n : Nat) (ht : ∀ w ∈ Ts, w.before args s = true) (hT : GoodIn Ts (wsV own index C y ws)) (hw : ws = Cond.codeWith y bytes maxL ret hh :: ws') (hrc : rm.cells = mc) (hrs : rm.slots = ms)
    (hd : y.cls = C ∧ y.cls ≠ "java/lang/invoke/MethodHandle" ∧ y.cls ≠ "java/lang/invoke/VarHandle" ∧ (parseMethodDescriptor y.desc).map (fun d => d.parameters.length) = some n) (hR : rm.frames + 1 ≤ R.frames ∧ 8 + (maxL + 11) + rm.locals ≤ R.locals) :
    vx_CVW R s args own C index y bytes maxL ret hh ws rm mc ms n := by
  obtain ⟨hC, hd⟩ := hd
  subst hC
  have ok : ∀ w ∈ wsV own index y.cls y ws, w.before args s = true := fun w h => ht w (hT w h).1
  have hG : GoodIn Ts ws := fun w h => hT w (by unfold wsV; exact List.mem_append_right _ h)
  have hc : Cond.codeWith y bytes maxL ret hh ∈ ws := by rw [hw]; exact List.mem_cons_self
  refine ⟨⟨hrc, hrs, hR.1, hR.2, pay_in ht hG, hc⟩, ht _ (hG _ hc).1, ok _ (by simp [wsV]), ⟨hd.1, hd.2.1⟩, fun sig h => ?_, ok _ (by simp [wsV]), ok _ (by simp [wsV]), ok _ (by simp [wsV])⟩
  have h2 := hd.2.2
  rw [h] at h2
  exact (Option.some.inj h2).symm
theorem vx_runVW {y : MethodName} {bytes cc : ByteArray} {maxL nL mc ms n index : Nat} {ret : Option FieldType} {hh : List (Nat × Nat × Nat × Nat)} {ws : List Cond} {rm : Room} {Pc : Array Value → State → Prop} {Qc : Array Value → State → Outcome → State → Prop} {free : Addr → Prop} {Ts : List Cond} {own C : String} {b : Addr} {As rest : List Value} {g : JFrame}
    (S : CallFix p m c cc nL s args Ts own) (hM : Met l y ws rm Pc Qc mc ms free) (cw : vx_CVW R s args own C index y bytes maxL ret hh ws rm mc ms n) (hp : PreV s H C b Pc As)
    (hg : g.method = m) (hn : As.length = n) (hsize : g.locals.size = nL) (hstack : g.stack = As.reverse ++ .ref b :: rest) (hW : 2 * g.monitorRoom + (rest.map fun v => v.category).sum ≤ 8) (hdg : decode cc g.pc = .ok (.invokevirtual index, 3)) (hf : cells + mc ≤ R.cells ∧ slots + ms ≤ R.slots) :
    va_Run p l e R s m args below meth c H locs cells slots mc ms g rest (Qc (Value.ref b :: As).toArray) free := by
  obtain ⟨⟨hrc, hrs, hfr, hlo, hws, hcw⟩, hcode, hini, hy, hlen, hl, hin, hse⟩ := cw
  have hK : Back l R p e below s args y 3 8 (PreOf R mc ms Pc) (PostOf Qc mc ms free) := va_backW (hh := hh) (bytes := bytes) (maxL := maxL) (ret := ret) hM hp.1 hrc hrs hfr hlo hws hcw (fun a' U hW => word_at hW (Or.inl (by first | rfl | simp [Cond.onTables, Cond.keeps, Cond.steady])) hini)
  obtain ⟨hx, hb, hml, ho, -⟩ := S
  obtain ⟨-, ⟨cellB, hcB, hoB, hclB⟩, hPc⟩ := hp
  intro T hT X
  obtain ⟨v, vm₁, ⟨U', l2, c2, s2⟩, hW₁, X', ⟨g', mk, t, L, e1, e2, hq, h1, hL, h2, h3⟩, st⟩ := vx_callVW X hx (C := C) (hh := hh) (bytes := bytes) (maxL := maxL) (ret := ret) ho hl hin hse hcode hy hK (by rw [hT]; exact hcB) hoB hclB hg (hsize.trans hml.symm) (argsL := As) (rest := rest) (fun sig h => hn.trans (hlen sig h)) hstack hW (by rw [hb]; exact hdg)
    (fun vm₁ hW₁ => ⟨hf.1, hf.2, hPc (T.setVm vm₁) hT hW₁⟩)
  dsimp only [Pt.U, Pt.locs, Pt.cells, Pt.slots] at X' e1 e2 h1 h2 h3 st
  subst h1; subst h2; subst h3
  exact ⟨v, (T.setVm vm₁).calling g' mk (Value.ref b :: As).toArray, t, U', L, hT, X', hL, e1, e2, hq, st⟩
section
variable {y : MethodName} {bytes cc : ByteArray} {maxL nL mc ms n index : Nat} {ret : Option FieldType} {ws : List Cond} {rm : Room} {Pc : Array Value → State → Prop} {Qc : Array Value → State → Outcome → State → Prop} {XC : String → State → State → Prop} {free : Addr → Prop} {Ts : List Cond} {own C : String} {b : Addr} {As rest : List Value} {g : JFrame}
theorem vx_runVX {hh : List (Nat × Nat × Nat × Nat)} (S : CallFix p m c cc nL s args Ts own) (hM : vx_Met l y ws rm Pc Qc XC mc ms free) (cw : vx_CVW R s args own C index y bytes maxL ret hh ws rm mc ms n) (hp : PreV s H C b Pc As)
    (hg : g.method = m) (hn : As.length = n) (hsize : g.locals.size = nL) (hstack : g.stack = As.reverse ++ .ref b :: rest) (hW : 2 * g.monitorRoom + (rest.map fun v => v.category).sum ≤ 8) (hdg : decode cc g.pc = .ok (.invokevirtual index, 3)) (hf : cells + mc ≤ R.cells ∧ slots + ms ≤ R.slots) :
    vx_Run p l e R s m args below meth c H locs cells slots mc ms g rest (Qc (Value.ref b :: As).toArray) XC free := by
  obtain ⟨⟨hrc, hrs, hfr, hlo, hws, hcw⟩, hcode, hini, hy, hlen, hl, hin, hse⟩ := cw
  have hK : vx_Back l R p e below s args y 3 8 (PreOf R mc ms Pc) (PostOf Qc mc ms free) (vx_Post XC mc ms free) := vx_backW (hh := hh) (bytes := bytes) (maxL := maxL) (ret := ret) hM hp.1 hrc hrs hfr hlo hws hcw (fun a' U hW => word_at hW (Or.inl (by first | rfl | simp [Cond.onTables, Cond.keeps, Cond.steady])) hini)
  obtain ⟨hx, hb, hml, ho, -⟩ := S
  obtain ⟨-, ⟨cellB, hcB, hoB, hclB⟩, hPc⟩ := hp
  intro T hT X
  rcases vx_callVX X hx (C := C) (hh := hh) (bytes := bytes) (maxL := maxL) (ret := ret) ho hl hin hse hcode hy hK (by rw [hT]; exact hcB) hoB hclB hg (hsize.trans hml.symm) (argsL := As) (rest := rest) (fun sig h => hn.trans (hlen sig h)) hstack hW (by rw [hb]; exact hdg)
    (fun vm₁ hW₁ => ⟨hf.1, hf.2, hPc (T.setVm vm₁) hT hW₁⟩) with ⟨v, vm₁, ⟨U', l2, c2, s2⟩, hW₁, X', ⟨g', mk, t, L, e1, e2, hq, h1, hL, h2, h3⟩, st⟩ | ⟨q, vm₁, ⟨U', l2, c2, s2⟩, hW₁, X', ⟨g', mk, t, L, E, ce, e1, e2, hq, hce, hcv, hcl, h1, hL, h2, h3⟩, st⟩
  · dsimp only [Pt.U, Pt.locs, Pt.cells, Pt.slots] at X' e1 e2 h1 h2 h3 st
    subst h1; subst h2; subst h3
    exact Or.inl ⟨v, (T.setVm vm₁).calling g' mk (Value.ref b :: As).toArray, t, U', L, hT, X', hL, e1, e2, hq, st⟩
  · dsimp only [Pt.U, Pt.locs, Pt.cells, Pt.slots] at X' e1 e2 h1 h2 h3 st hcl
    subst h1; subst h2; subst h3
    exact Or.inr ⟨q, (T.setVm vm₁).calling g' mk (Value.ref b :: As).toArray, t, U', L, E, ce, hT, X', hL, e1, e2, hq, hce, hcv, vx_cls hW₁ hcl, st⟩
theorem vx_runSX {hh : List (Nat × Nat × Nat × Nat)} (S : CallFix p m c cc nL s args Ts own) (hM : vx_Met l y ws rm Pc Qc XC mc ms free) (cw : vx_CSW R s args own index y bytes maxL ret hh ws rm mc ms n) (hp : PreS s H Pc As)
    (hg : g.method = m) (hn : As.length = n) (hsize : g.locals.size = nL) (hstack : g.stack = As.reverse ++ rest) (hW : 2 * g.monitorRoom + (rest.map fun v => v.category).sum ≤ 8) (hdg : decode cc g.pc = .ok (.invokestatic index, 3)) (hf : cells + mc ≤ R.cells ∧ slots + ms ≤ R.slots) :
    vx_Run p l e R s m args below meth c H locs cells slots mc ms g rest (Qc As.toArray) XC free := by
  obtain ⟨⟨hrc, hrs, hfr, hlo, hws, hcw⟩, hcode, hini, hy, hlen, hl, hstt⟩ := cw
  have hK : vx_Back l R p e below s args y 3 8 (PreOf R mc ms Pc) (PostOf Qc mc ms free) (vx_Post XC mc ms free) := vx_backW (hh := hh) (bytes := bytes) (maxL := maxL) (ret := ret) hM hp.1 hrc hrs hfr hlo hws hcw (fun a' U hW => word_at hW (Or.inl (by first | rfl | simp [Cond.onTables, Cond.keeps, Cond.steady])) hini)
  obtain ⟨hx, hb, hml, ho, -⟩ := S
  intro T hT X
  rcases vx_callSX X hx (hh := hh) (bytes := bytes) (maxL := maxL) (ret := ret) ho hl hstt hini hcode hy hK hg (hsize.trans hml.symm) (argsL := As) (rest := rest) (fun sig h => hn.trans (hlen sig h)) hstack hW (by rw [hb]; exact hdg)
    (fun vm₁ hW₁ => ⟨hf.1, hf.2, hp.2 (T.setVm vm₁) hT hW₁⟩) with ⟨v, vm₁, ⟨U', l2, c2, s2⟩, hW₁, X', ⟨g', mk, t, L, e1, e2, hq, h1, hL, h2, h3⟩, st⟩ | ⟨q, vm₁, ⟨U', l2, c2, s2⟩, hW₁, X', ⟨g', mk, t, L, E, ce, e1, e2, hq, hce, hcv, hcl, h1, hL, h2, h3⟩, st⟩
  · dsimp only [Pt.U, Pt.locs, Pt.cells, Pt.slots] at X' e1 e2 h1 h2 h3 st
    subst h1; subst h2; subst h3
    exact Or.inl ⟨v, (T.setVm vm₁).calling g' mk As.toArray, t, U', L, hT, X', hL, e1, e2, hq, st⟩
  · dsimp only [Pt.U, Pt.locs, Pt.cells, Pt.slots] at X' e1 e2 h1 h2 h3 st hcl
    subst h1; subst h2; subst h3
    exact Or.inr ⟨q, (T.setVm vm₁).calling g' mk As.toArray, t, U', L, E, ce, hT, X', hL, e1, e2, hq, hce, hcv, vx_cls hW₁ hcl, st⟩
end
end VXH
theorem vx_ofWH {l : Launch} {y : MethodName} {ws ws' : List Cond} {rm : Room} {Pc : Array Value → State → Prop} {Qc : Array Value → State → Outcome → State → Prop} {XC : String → State → State → Prop} {mc ms : Nat} {free : Addr → Prop} {cc : ByteArray} {maxL : Nat} {ret : Option FieldType} {hh : List (Nat × Nat × Nat × Nat)}
    (hy : plainName y.cls = true) (hw : ws = Cond.codeWith y cc maxL ret hh :: ws')
    (body : ∀ p e s m args below meth c s₁, BodyLoose p l y (headSpec ws rm) cc maxL ret e s m args below meth c s₁ → c.maxLocals = maxL → Pc args s →
      W p l e (headSpec ws rm).room s m args below meth c s.heap [] 0 0 (vx_MQ below Qc XC args s mc ms free) (entryFrame m args maxL)) : vx_Met l y ws rm Pc Qc XC mc ms free := by
  refine MetFree.of_bodyS (code := cc) (maxLocals := maxL) (ret := ret) hy ?_ ?_
  · intro args s m h hn
    obtain ⟨m9, meth, c, hn9, h1, h2, h3, h4, -, h5, h6, -⟩ := Cond.codeWith_spec (atoms_spec (ws := ws) h _ (by rw [hw]; exact List.mem_cons_self))
    cases hn.symm.trans hn9
    exact ⟨meth, c, h1, h2, h3, h4, h5, h6⟩
  · intro p e s m args below meth c s₁ B hml hP _
    have hh0 : s₁.heap = s.heap := by rw [B.state]; rfl
    obtain ⟨t, a1, o, b1, b2, b3⟩ := body p e s m args below meth c s₁ B hml hP s₁ hh0 (Stand.of_body B)
    exact ⟨t, o, a1, b1, b2, b3⟩
/-! ===== END ===== -/
end
section
/-! ===== BEGIN printed: names, fields, word lists, decode rows ===== -/
def RX0 : String := "RelationRows"
def TX0 : u_T := fun k => match k with
  | 0 => ("RelationRows", "things", "I", true)
  | 1 => ("RelationRows", "allThings", "J", true)
  | 2 => ("RelationRows", "kinds", "[I", true)
  | 3 => ("RelationRows", "tallies", "[I", true)
  | 4 => ("RelationRows", "relations", "I", false)
  | 5 => ("RelationRows", "forms", "[I", true)
  | 6 => ("RelationRows", "firsts", "[I", true)
  | 7 => ("RelationRows", "seconds", "[I", true)
  | 8 => ("RelationRows", "rows", "[[J", true)
  | 9 => ("RelationRows", "settled", "I", false)
  | 10 => ("RelationRows", "pushedCount", "I", false)
  | 11 => ("RelationRows", "pushedFirsts", "[I", true)
  | 12 => ("RelationRows", "pushedSeconds", "[I", true)
  | _ => ("RelationRows", "steps", "[I", true)
def tyX0 : Nat → FieldType := fun k => match k with
  | 0 => .int
  | 1 => .long
  | 2 => .array .int
  | 3 => .array .int
  | 4 => .int
  | 5 => .array .int
  | 6 => .array .int
  | 7 => .array .int
  | 8 => .array (.array .long)
  | 9 => .int
  | 10 => .int
  | 11 => .array .int
  | 12 => .array .int
  | _ => .array .int
abbrev wsX00 : List Cond := u_ws RX0 TX0 14
theorem nmX0 : ∀ a, a < 14 → ∀ b, b < 14 → a ≠ b → (TX0 a).2.1 ≠ (TX0 b).2.1 := by decide +kernel
theorem tyX0_ok : ∀ k, k < 14 → parseFieldDescriptor (TX0 k).2.2.1 = some (tyX0 k) := by decide +kernel
abbrev cX0_init : ByteArray := prog_1_method_1_code
def yX0_init : MethodName := ⟨RX0, "<init>", "(I)V"⟩
abbrev cX0_clear : ByteArray := prog_1_method_2_code
def yX0_clear : MethodName := ⟨RX0, "clear", "()I"⟩
abbrev cX0_kind : ByteArray := prog_1_method_3_code
def yX0_kind : MethodName := ⟨RX0, "kind", "(II)I"⟩
abbrev cX0_relation : ByteArray := prog_1_method_4_code
def yX0_relation : MethodName := ⟨RX0, "relation", "(III)I"⟩
abbrev cX0_condition : ByteArray := prog_1_method_5_code
def yX0_condition : MethodName := ⟨RX0, "condition", "(III)I"⟩
abbrev cX0_set : ByteArray := prog_1_method_6_code
def yX0_set : MethodName := ⟨RX0, "set", "(III)I"⟩
abbrev cX0_drop : ByteArray := prog_1_method_7_code
def yX0_drop : MethodName := ⟨RX0, "drop", "(III)Z"⟩
abbrev cX0_empty : ByteArray := prog_1_method_8_code
def yX0_empty : MethodName := ⟨RX0, "empty", "(I)I"⟩
abbrev cX0_pushed : ByteArray := prog_1_method_9_code
def yX0_pushed : MethodName := ⟨RX0, "pushed", "(II)I"⟩
abbrev cX0_has : ByteArray := prog_1_method_10_code
def yX0_has : MethodName := ⟨RX0, "has", "(III)Z"⟩
abbrev cX0_next : ByteArray := prog_1_method_11_code
def yX0_next : MethodName := ⟨RX0, "next", "(III)I"⟩
abbrev cX0_back : ByteArray := prog_1_method_12_code
def yX0_back : MethodName := ⟨RX0, "back", "(III)I"⟩
abbrev cX0_count : ByteArray := prog_1_method_13_code
def yX0_count : MethodName := ⟨RX0, "count", "(I)I"⟩
abbrev cX0_length : ByteArray := prog_1_method_14_code
def yX0_length : MethodName := ⟨RX0, "length", "(III)I"⟩
abbrev cX0_route : ByteArray := prog_1_method_15_code
def yX0_route : MethodName := ⟨RX0, "route", "(IIII)I"⟩
abbrev cX0_leader : ByteArray := prog_1_method_16_code
def yX0_leader : MethodName := ⟨RX0, "leader", "(II)I"⟩
abbrev cX0_differ : ByteArray := prog_1_method_17_code
def yX0_differ : MethodName := ⟨RX0, "differ", "(II)I"⟩
abbrev cX0_tally : ByteArray := prog_1_method_18_code
def yX0_tally : MethodName := ⟨RX0, "tally", "(II)I"⟩
abbrev cX0_of : ByteArray := prog_1_method_19_code
def yX0_of : MethodName := ⟨RX0, "of", "(I)I"⟩
abbrev cX0_told : ByteArray := prog_1_method_20_code
def yX0_told : MethodName := ⟨RX0, "told", "(II)I"⟩
abbrev cX0_isThing : ByteArray := prog_1_method_21_code
def yX0_isThing : MethodName := ⟨RX0, "isThing", "(I)Z"⟩
abbrev cX0_needThing : ByteArray := prog_1_method_22_code
def yX0_needThing : MethodName := ⟨RX0, "needThing", "(I)V"⟩
abbrev cX0_needRelation : ByteArray := prog_1_method_23_code
def yX0_needRelation : MethodName := ⟨RX0, "needRelation", "(I)V"⟩
abbrev cX0_needKindOrNone : ByteArray := prog_1_method_24_code
def yX0_needKindOrNone : MethodName := ⟨RX0, "needKindOrNone", "(I)V"⟩
abbrev cX0_needRoomForRelation : ByteArray := prog_1_method_25_code
def yX0_needRoomForRelation : MethodName := ⟨RX0, "needRoomForRelation", "()V"⟩
abbrev cX0_needForm : ByteArray := prog_1_method_26_code
def yX0_needForm : MethodName := ⟨RX0, "needForm", "(I)V"⟩
abbrev cX0_needSettable : ByteArray := prog_1_method_27_code
def yX0_needSettable : MethodName := ⟨RX0, "needSettable", "(III)V"⟩
abbrev cX0_isOfKind : ByteArray := prog_1_method_28_code
def yX0_isOfKind : MethodName := ⟨RX0, "isOfKind", "(II)Z"⟩
abbrev cX0_isByCondition : ByteArray := prog_1_method_29_code
def yX0_isByCondition : MethodName := ⟨RX0, "isByCondition", "(I)Z"⟩
abbrev cX0_takesTwo : ByteArray := prog_1_method_30_code
def yX0_takesTwo : MethodName := ⟨RX0, "takesTwo", "(I)Z"⟩
abbrev cX0_addRelation : ByteArray := prog_1_method_31_code
def yX0_addRelation : MethodName := ⟨RX0, "addRelation", "(III)I"⟩
abbrev cX0_startRows : ByteArray := prog_1_method_32_code
def yX0_startRows : MethodName := ⟨RX0, "startRows", "(I)V"⟩
abbrev cX0_bit : ByteArray := prog_1_method_33_code
def yX0_bit : MethodName := ⟨RX0, "bit", "(I)J"⟩
abbrev cX0_holds : ByteArray := prog_1_method_34_code
def yX0_holds : MethodName := ⟨RX0, "holds", "(III)Z"⟩
abbrev cX0_column : ByteArray := prog_1_method_35_code
def yX0_column : MethodName := ⟨RX0, "column", "(II)J"⟩
abbrev cX0_pairsOf : ByteArray := prog_1_method_36_code
def yX0_pairsOf : MethodName := ⟨RX0, "pairsOf", "(I)I"⟩
abbrev cX0_pick : ByteArray := prog_1_method_37_code
def yX0_pick : MethodName := ⟨RX0, "pick", "(JI)I"⟩
abbrev cX0_pushOut : ByteArray := prog_1_method_38_code
def yX0_pushOut : MethodName := ⟨RX0, "pushOut", "(III)V"⟩
abbrev cX0_pushRow : ByteArray := prog_1_method_39_code
def yX0_pushRow : MethodName := ⟨RX0, "pushRow", "(II)V"⟩
abbrev cX0_pushColumn : ByteArray := prog_1_method_40_code
def yX0_pushColumn : MethodName := ⟨RX0, "pushColumn", "(II)V"⟩
abbrev cX0_pushPair : ByteArray := prog_1_method_41_code
def yX0_pushPair : MethodName := ⟨RX0, "pushPair", "(III)V"⟩
abbrev cX0_goesBothWays : ByteArray := prog_1_method_42_code
def yX0_goesBothWays : MethodName := ⟨RX0, "goesBothWays", "(I)Z"⟩
abbrev cX0_join : ByteArray := prog_1_method_43_code
def yX0_join : MethodName := ⟨RX0, "join", "(III)V"⟩
abbrev cX0_part : ByteArray := prog_1_method_44_code
def yX0_part : MethodName := ⟨RX0, "part", "(III)V"⟩
abbrev cX0_makeClass : ByteArray := prog_1_method_45_code
def yX0_makeClass : MethodName := ⟨RX0, "makeClass", "(IJ)V"⟩
abbrev cX0_makeStale : ByteArray := prog_1_method_46_code
def yX0_makeStale : MethodName := ⟨RX0, "makeStale", "(I)V"⟩
abbrev cX0_settle : ByteArray := prog_1_method_47_code
def yX0_settle : MethodName := ⟨RX0, "settle", "(I)V"⟩
abbrev cX0_workOut : ByteArray := prog_1_method_48_code
def yX0_workOut : MethodName := ⟨RX0, "workOut", "(I)V"⟩
abbrev cX0_rowBy : ByteArray := prog_1_method_49_code
def yX0_rowBy : MethodName := ⟨RX0, "rowBy", "(IIII)J"⟩
abbrev cX0_rowThrough : ByteArray := prog_1_method_50_code
def yX0_rowThrough : MethodName := ⟨RX0, "rowThrough", "(III)J"⟩
abbrev cX0_workOutFar : ByteArray := prog_1_method_51_code
def yX0_workOutFar : MethodName := ⟨RX0, "workOutFar", "(I)V"⟩
abbrev cX0_measureSteps : ByteArray := prog_1_method_52_code
def yX0_measureSteps : MethodName := ⟨RX0, "measureSteps", "(II)V"⟩
abbrev cX0_stepNearer : ByteArray := prog_1_method_53_code
def yX0_stepNearer : MethodName := ⟨RX0, "stepNearer", "(II)I"⟩
def RX1 : String := "RelationRowsModel"
def TX1 : u_T := fun k => match k with
  | 0 => ("RelationRowsModel", "code", "I", false)
  | 1 => ("RelationRowsModel", "things", "I", true)
  | 2 => ("RelationRowsModel", "kinds", "[I", true)
  | 3 => ("RelationRowsModel", "relations", "I", false)
  | 4 => ("RelationRowsModel", "form", "[I", true)
  | 5 => ("RelationRowsModel", "one", "[I", true)
  | 6 => ("RelationRowsModel", "two", "[I", true)
  | 7 => ("RelationRowsModel", "pairs", "[Z", true)
  | 8 => ("RelationRowsModel", "pushes", "I", false)
  | 9 => ("RelationRowsModel", "pushedFirst", "[I", true)
  | 10 => ("RelationRowsModel", "pushedSecond", "[I", true)
  | 11 => ("RelationRowsModel", "tallies", "[I", true)
  | 12 => ("RelationRowsModel", "joined", "[Z", true)
  | _ => ("RelationRowsModel", "steps", "[I", true)
def tyX1 : Nat → FieldType := fun k => match k with
  | 0 => .int
  | 1 => .int
  | 2 => .array .int
  | 3 => .int
  | 4 => .array .int
  | 5 => .array .int
  | 6 => .array .int
  | 7 => .array .boolean
  | 8 => .int
  | 9 => .array .int
  | 10 => .array .int
  | 11 => .array .int
  | 12 => .array .boolean
  | _ => .array .int
abbrev wsX10 : List Cond := u_ws RX1 TX1 14
theorem nmX1 : ∀ a, a < 14 → ∀ b, b < 14 → a ≠ b → (TX1 a).2.1 ≠ (TX1 b).2.1 := by decide +kernel
theorem tyX1_ok : ∀ k, k < 14 → parseFieldDescriptor (TX1 k).2.2.1 = some (tyX1 k) := by decide +kernel
abbrev cX1_init : ByteArray := prog_3_method_1_code
def yX1_init : MethodName := ⟨RX1, "<init>", "(I)V"⟩
abbrev cX1_thrown : ByteArray := prog_3_method_2_code
def yX1_thrown : MethodName := ⟨RX1, "thrown", "()I"⟩
abbrev cX1_begin : ByteArray := prog_3_method_3_code
def yX1_begin : MethodName := ⟨RX1, "begin", "()V"⟩
abbrev cX1_clear : ByteArray := prog_3_method_4_code
def yX1_clear : MethodName := ⟨RX1, "clear", "()I"⟩
abbrev cX1_isGood : ByteArray := prog_3_method_5_code
def yX1_isGood : MethodName := ⟨RX1, "isGood", "(I)Z"⟩
abbrev cX1_isIn : ByteArray := prog_3_method_6_code
def yX1_isIn : MethodName := ⟨RX1, "isIn", "(III)Z"⟩
abbrev cX1_isThing : ByteArray := prog_3_method_7_code
def yX1_isThing : MethodName := ⟨RX1, "isThing", "(I)Z"⟩
abbrev cX1_isRelation : ByteArray := prog_3_method_8_code
def yX1_isRelation : MethodName := ⟨RX1, "isRelation", "(I)Z"⟩
abbrev cX1_kind : ByteArray := prog_3_method_9_code
def yX1_kind : MethodName := ⟨RX1, "kind", "(II)I"⟩
abbrev cX1_at : ByteArray := prog_3_method_10_code
def yX1_at : MethodName := ⟨RX1, "at", "(III)I"⟩
abbrev cX1_make : ByteArray := prog_3_method_11_code
def yX1_make : MethodName := ⟨RX1, "make", "(III)I"⟩
abbrev cX1_relation : ByteArray := prog_3_method_12_code
def yX1_relation : MethodName := ⟨RX1, "relation", "(III)I"⟩
abbrev cX1_condition : ByteArray := prog_3_method_13_code
def yX1_condition : MethodName := ⟨RX1, "condition", "(III)I"⟩
abbrev cX1_work : ByteArray := prog_3_method_14_code
def yX1_work : MethodName := ⟨RX1, "work", "(I)V"⟩
abbrev cX1_far : ByteArray := prog_3_method_15_code
def yX1_far : MethodName := ⟨RX1, "far", "(I)V"⟩
abbrev cX1_learn : ByteArray := prog_3_method_16_code
def yX1_learn : MethodName := ⟨RX1, "learn", "(I)V"⟩
abbrev cX1_isOf : ByteArray := prog_3_method_17_code
def yX1_isOf : MethodName := ⟨RX1, "isOf", "(II)Z"⟩
abbrev cX1_whyNot : ByteArray := prog_3_method_18_code
def yX1_whyNot : MethodName := ⟨RX1, "whyNot", "(III)I"⟩
abbrev cX1_put : ByteArray := prog_3_method_19_code
def yX1_put : MethodName := ⟨RX1, "put", "(IIIZ)V"⟩
abbrev cX1_push : ByteArray := prog_3_method_20_code
def yX1_push : MethodName := ⟨RX1, "push", "(III)V"⟩
abbrev cX1_pushFrom : ByteArray := prog_3_method_21_code
def yX1_pushFrom : MethodName := ⟨RX1, "pushFrom", "(II)V"⟩
abbrev cX1_pushTo : ByteArray := prog_3_method_22_code
def yX1_pushTo : MethodName := ⟨RX1, "pushTo", "(II)V"⟩
abbrev cX1_join : ByteArray := prog_3_method_23_code
def yX1_join : MethodName := ⟨RX1, "join", "(III)V"⟩
abbrev cX1_set : ByteArray := prog_3_method_24_code
def yX1_set : MethodName := ⟨RX1, "set", "(III)I"⟩
abbrev cX1_part : ByteArray := prog_3_method_25_code
def yX1_part : MethodName := ⟨RX1, "part", "(II)V"⟩
abbrev cX1_drop : ByteArray := prog_3_method_26_code
def yX1_drop : MethodName := ⟨RX1, "drop", "(III)Z"⟩
abbrev cX1_countOf : ByteArray := prog_3_method_27_code
def yX1_countOf : MethodName := ⟨RX1, "countOf", "(I)I"⟩
abbrev cX1_empty : ByteArray := prog_3_method_28_code
def yX1_empty : MethodName := ⟨RX1, "empty", "(I)I"⟩
abbrev cX1_pushed : ByteArray := prog_3_method_29_code
def yX1_pushed : MethodName := ⟨RX1, "pushed", "(II)I"⟩
abbrev cX1_has : ByteArray := prog_3_method_30_code
def yX1_has : MethodName := ⟨RX1, "has", "(III)Z"⟩
abbrev cX1_beside : ByteArray := prog_3_method_31_code
def yX1_beside : MethodName := ⟨RX1, "beside", "(IIIZ)I"⟩
abbrev cX1_besideOr : ByteArray := prog_3_method_32_code
def yX1_besideOr : MethodName := ⟨RX1, "besideOr", "(IIIZ)I"⟩
abbrev cX1_next : ByteArray := prog_3_method_33_code
def yX1_next : MethodName := ⟨RX1, "next", "(III)I"⟩
abbrev cX1_back : ByteArray := prog_3_method_34_code
def yX1_back : MethodName := ⟨RX1, "back", "(III)I"⟩
abbrev cX1_count : ByteArray := prog_3_method_35_code
def yX1_count : MethodName := ⟨RX1, "count", "(I)I"⟩
abbrev cX1_measure : ByteArray := prog_3_method_36_code
def yX1_measure : MethodName := ⟨RX1, "measure", "(II)V"⟩
abbrev cX1_length : ByteArray := prog_3_method_37_code
def yX1_length : MethodName := ⟨RX1, "length", "(III)I"⟩
abbrev cX1_route : ByteArray := prog_3_method_38_code
def yX1_route : MethodName := ⟨RX1, "route", "(IIII)I"⟩
abbrev cX1_leader : ByteArray := prog_3_method_39_code
def yX1_leader : MethodName := ⟨RX1, "leader", "(II)I"⟩
abbrev cX1_differ : ByteArray := prog_3_method_40_code
def yX1_differ : MethodName := ⟨RX1, "differ", "(II)I"⟩
abbrev cX1_tally : ByteArray := prog_3_method_41_code
def yX1_tally : MethodName := ⟨RX1, "tally", "(II)I"⟩
abbrev cX1_of : ByteArray := prog_3_method_42_code
def yX1_of : MethodName := ⟨RX1, "of", "(I)I"⟩
abbrev cX1_told : ByteArray := prog_3_method_43_code
def yX1_told : MethodName := ⟨RX1, "told", "(II)I"⟩
def RJx145de : String := "java/io/Serializable"
def TJx145de : u_T := fun k => match k with
  | _ => ("", "", "", false)
def tyJx145de : Nat → FieldType := fun k => match k with
  | _ => .int
abbrev wsJx145de0 : List Cond := u_ws RJx145de TJx145de 0
theorem nmJx145de : ∀ a, a < 0 → ∀ b, b < 0 → a ≠ b → (TJx145de a).2.1 ≠ (TJx145de b).2.1 := by decide +kernel
theorem tyJx145de_ok : ∀ k, k < 0 → parseFieldDescriptor (TJx145de k).2.2.1 = some (tyJx145de k) := by decide +kernel
def RJx00060 : String := "java/lang/ArrayIndexOutOfBoundsException"
def TJx00060 : u_T := fun k => match k with
  | 0 => ("java/lang/Throwable", "backtrace", "Ljava/lang/Object;", false)
  | 1 => ("java/lang/Throwable", "detailMessage", "Ljava/lang/String;", false)
  | 2 => ("java/lang/Throwable", "cause", "Ljava/lang/Throwable;", false)
  | 3 => ("java/lang/Throwable", "stackTrace", "[Ljava/lang/StackTraceElement;", false)
  | 4 => ("java/lang/Throwable", "depth", "I", false)
  | _ => ("java/lang/Throwable", "suppressedExceptions", "Ljava/util/List;", false)
def tyJx00060 : Nat → FieldType := fun k => match k with
  | 0 => .object "java/lang/Object"
  | 1 => .object "java/lang/String"
  | 2 => .object "java/lang/Throwable"
  | 3 => .array (.object "java/lang/StackTraceElement")
  | 4 => .int
  | _ => .object "java/util/List"
abbrev wsJx000600 : List Cond := u_ws RJx00060 TJx00060 6
theorem nmJx00060 : ∀ a, a < 6 → ∀ b, b < 6 → a ≠ b → (TJx00060 a).2.1 ≠ (TJx00060 b).2.1 := by decide +kernel
theorem tyJx00060_ok : ∀ k, k < 6 → parseFieldDescriptor (TJx00060 k).2.2.1 = some (tyJx00060 k) := by decide +kernel
abbrev cJx00060_init_a7421 : ByteArray := prog_5_method_2_code
def yJx00060_init_a7421 : MethodName := ⟨RJx00060, "<init>", "(Ljava/lang/String;)V"⟩
def RJxb160c : String := "java/lang/Comparable"
def TJxb160c : u_T := fun k => match k with
  | _ => ("", "", "", false)
def tyJxb160c : Nat → FieldType := fun k => match k with
  | _ => .int
abbrev wsJxb160c0 : List Cond := u_ws RJxb160c TJxb160c 0
theorem nmJxb160c : ∀ a, a < 0 → ∀ b, b < 0 → a ≠ b → (TJxb160c a).2.1 ≠ (TJxb160c b).2.1 := by decide +kernel
theorem tyJxb160c_ok : ∀ k, k < 0 → parseFieldDescriptor (TJxb160c k).2.2.1 = some (tyJxb160c k) := by decide +kernel
def RJ6 : String := "java/lang/Integer"
def TJ6 : u_T := fun k => match k with
  | _ => ("", "", "", false)
def tyJ6 : Nat → FieldType := fun k => match k with
  | _ => .int
abbrev wsJ60 : List Cond := u_ws RJ6 TJ6 0
theorem nmJ6 : ∀ a, a < 0 → ∀ b, b < 0 → a ≠ b → (TJ6 a).2.1 ≠ (TJ6 b).2.1 := by decide +kernel
theorem tyJ6_ok : ∀ k, k < 0 → parseFieldDescriptor (TJ6 k).2.2.1 = some (tyJ6 k) := by decide +kernel
abbrev cJ6_numberOfTrailingZeros_0f7a4 : ByteArray := prog_11_method_48_code
def yJ6_numberOfTrailingZeros_0f7a4 : MethodName := ⟨RJ6, "numberOfTrailingZeros", "(I)I"⟩
def RJ13 : String := "java/lang/Long"
def TJ13 : u_T := fun k => match k with
  | _ => ("", "", "", false)
def tyJ13 : Nat → FieldType := fun k => match k with
  | _ => .int
abbrev wsJ130 : List Cond := u_ws RJ13 TJ13 0
theorem nmJ13 : ∀ a, a < 0 → ∀ b, b < 0 → a ≠ b → (TJ13 a).2.1 ≠ (TJ13 b).2.1 := by decide +kernel
theorem tyJ13_ok : ∀ k, k < 0 → parseFieldDescriptor (TJ13 k).2.2.1 = some (tyJ13 k) := by decide +kernel
abbrev cJ13_numberOfTrailingZeros_95d88 : ByteArray := prog_12_method_49_code
def yJ13_numberOfTrailingZeros_95d88 : MethodName := ⟨RJ13, "numberOfTrailingZeros", "(J)I"⟩
abbrev cJ13_bitCount_95d88 : ByteArray := prog_12_method_50_code
def yJ13_bitCount_95d88 : MethodName := ⟨RJ13, "bitCount", "(J)I"⟩
def RJ9 : String := "java/lang/Math"
def TJ9 : u_T := fun k => match k with
  | _ => ("", "", "", false)
def tyJ9 : Nat → FieldType := fun k => match k with
  | _ => .int
abbrev wsJ90 : List Cond := u_ws RJ9 TJ9 0
theorem nmJ9 : ∀ a, a < 0 → ∀ b, b < 0 → a ≠ b → (TJ9 a).2.1 ≠ (TJ9 b).2.1 := by decide +kernel
theorem tyJ9_ok : ∀ k, k < 0 → parseFieldDescriptor (TJ9 k).2.2.1 = some (tyJ9 k) := by decide +kernel
abbrev cJ9_max_7cf53 : ByteArray := prog_13_method_65_code
def yJ9_max_7cf53 : MethodName := ⟨RJ9, "max", "(II)I"⟩
abbrev cJ9_min_7cf53 : ByteArray := prog_13_method_69_code
def yJ9_min_7cf53 : MethodName := ⟨RJ9, "min", "(II)I"⟩
def RJxd2413 : String := "java/lang/Number"
def TJxd2413 : u_T := fun k => match k with
  | _ => ("", "", "", false)
def tyJxd2413 : Nat → FieldType := fun k => match k with
  | _ => .int
abbrev wsJxd24130 : List Cond := u_ws RJxd2413 TJxd2413 0
theorem nmJxd2413 : ∀ a, a < 0 → ∀ b, b < 0 → a ≠ b → (TJxd2413 a).2.1 ≠ (TJxd2413 b).2.1 := by decide +kernel
theorem tyJxd2413_ok : ∀ k, k < 0 → parseFieldDescriptor (TJxd2413 k).2.2.1 = some (tyJxd2413 k) := by decide +kernel
def RJ0 : String := "java/lang/String"
def TJ0 : u_T := fun k => match k with
  | 0 => ("java/lang/String", "value", "[B", true)
  | _ => ("java/lang/String", "coder", "B", true)
def tyJ0 : Nat → FieldType := fun k => match k with
  | 0 => .array .byte
  | _ => .byte
abbrev wsJ00 : List Cond := u_ws RJ0 TJ0 2
theorem nmJ0 : ∀ a, a < 2 → ∀ b, b < 2 → a ≠ b → (TJ0 a).2.1 ≠ (TJ0 b).2.1 := by decide +kernel
theorem tyJ0_ok : ∀ k, k < 2 → parseFieldDescriptor (TJ0 k).2.2.1 = some (tyJ0 k) := by decide +kernel
def RJ10 : String := "java/lang/System"
def TJ10 : u_T := fun k => match k with
  | _ => ("", "", "", false)
def tyJ10 : Nat → FieldType := fun k => match k with
  | _ => .int
abbrev wsJ100 : List Cond := u_ws RJ10 TJ10 0
theorem nmJ10 : ∀ a, a < 0 → ∀ b, b < 0 → a ≠ b → (TJ10 a).2.1 ≠ (TJ10 b).2.1 := by decide +kernel
theorem tyJ10_ok : ∀ k, k < 0 → parseFieldDescriptor (TJ10 k).2.2.1 = some (tyJ10 k) := by decide +kernel
def RJxfd54e : String := "java/lang/constant/Constable"
def TJxfd54e : u_T := fun k => match k with
  | _ => ("", "", "", false)
def tyJxfd54e : Nat → FieldType := fun k => match k with
  | _ => .int
abbrev wsJxfd54e0 : List Cond := u_ws RJxfd54e TJxfd54e 0
theorem nmJxfd54e : ∀ a, a < 0 → ∀ b, b < 0 → a ≠ b → (TJxfd54e a).2.1 ≠ (TJxfd54e b).2.1 := by decide +kernel
theorem tyJxfd54e_ok : ∀ k, k < 0 → parseFieldDescriptor (TJxfd54e k).2.2.1 = some (tyJxfd54e k) := by decide +kernel
def RJx3cf43 : String := "java/lang/constant/ConstantDesc"
def TJx3cf43 : u_T := fun k => match k with
  | _ => ("", "", "", false)
def tyJx3cf43 : Nat → FieldType := fun k => match k with
  | _ => .int
abbrev wsJx3cf430 : List Cond := u_ws RJx3cf43 TJx3cf43 0
theorem nmJx3cf43 : ∀ a, a < 0 → ∀ b, b < 0 → a ≠ b → (TJx3cf43 a).2.1 ≠ (TJx3cf43 b).2.1 := by decide +kernel
theorem tyJx3cf43_ok : ∀ k, k < 0 → parseFieldDescriptor (TJx3cf43 k).2.2.1 = some (tyJx3cf43 k) := by decide +kernel
def RJ7 : String := "java/util/Arrays"
def TJ7 : u_T := fun k => match k with
  | _ => ("", "", "", false)
def tyJ7 : Nat → FieldType := fun k => match k with
  | _ => .int
abbrev wsJ70 : List Cond := u_ws RJ7 TJ7 0
theorem nmJ7 : ∀ a, a < 0 → ∀ b, b < 0 → a ≠ b → (TJ7 a).2.1 ≠ (TJ7 b).2.1 := by decide +kernel
theorem tyJ7_ok : ∀ k, k < 0 → parseFieldDescriptor (TJ7 k).2.2.1 = some (tyJ7 k) := by decide +kernel
abbrev cJ7_fill_53178 : ByteArray := prog_21_method_103_code
def yJ7_fill_53178 : MethodName := ⟨RJ7, "fill", "([II)V"⟩
def RL : String := "RelationRowsLaw"
abbrev cL_cell : ByteArray := method_2_code
def yL_cell : MethodName := ⟨RL, "cell", "([II)I"⟩
abbrev cL_kind : ByteArray := method_3_code
def yL_kind : MethodName := ⟨RL, "kind", "(LRelationRows;II[J)I"⟩
abbrev cL_relation : ByteArray := method_4_code
def yL_relation : MethodName := ⟨RL, "relation", "(LRelationRows;III[J)I"⟩
abbrev cL_condition : ByteArray := method_5_code
def yL_condition : MethodName := ⟨RL, "condition", "(LRelationRows;III[J)I"⟩
abbrev cL_set : ByteArray := method_6_code
def yL_set : MethodName := ⟨RL, "set", "(LRelationRows;III[J)I"⟩
abbrev cL_drop : ByteArray := method_7_code
def yL_drop : MethodName := ⟨RL, "drop", "(LRelationRows;III[J)I"⟩
abbrev cL_empty : ByteArray := method_8_code
def yL_empty : MethodName := ⟨RL, "empty", "(LRelationRows;I[J)I"⟩
abbrev cL_pushed : ByteArray := method_9_code
def yL_pushed : MethodName := ⟨RL, "pushed", "(LRelationRows;II[J)I"⟩
abbrev cL_has : ByteArray := method_10_code
def yL_has : MethodName := ⟨RL, "has", "(LRelationRows;III[J)I"⟩
abbrev cL_next : ByteArray := method_11_code
def yL_next : MethodName := ⟨RL, "next", "(LRelationRows;III[J)I"⟩
abbrev cL_back : ByteArray := method_12_code
def yL_back : MethodName := ⟨RL, "back", "(LRelationRows;III[J)I"⟩
abbrev cL_count : ByteArray := method_13_code
def yL_count : MethodName := ⟨RL, "count", "(LRelationRows;I[J)I"⟩
abbrev cL_length : ByteArray := method_14_code
def yL_length : MethodName := ⟨RL, "length", "(LRelationRows;III[J)I"⟩
abbrev cL_route : ByteArray := method_15_code
def yL_route : MethodName := ⟨RL, "route", "(LRelationRows;IIII[J)I"⟩
abbrev cL_leader : ByteArray := method_16_code
def yL_leader : MethodName := ⟨RL, "leader", "(LRelationRows;II[J)I"⟩
abbrev cL_differ : ByteArray := method_17_code
def yL_differ : MethodName := ⟨RL, "differ", "(LRelationRows;II[J)I"⟩
abbrev cL_tally : ByteArray := method_18_code
def yL_tally : MethodName := ⟨RL, "tally", "(LRelationRows;II[J)I"⟩
abbrev cL_of : ByteArray := method_19_code
def yL_of : MethodName := ⟨RL, "of", "(LRelationRows;I[J)I"⟩
abbrev cL_told : ByteArray := method_20_code
def yL_told : MethodName := ⟨RL, "told", "(LRelationRows;II[J)I"⟩
abbrev cL_law : ByteArray := code
def yL_law : MethodName := ⟨RL, "law", "([I)Z"⟩
abbrev vwCl : List vw_C := [(RJ0, TJ0, 2), (RJx00060, TJx00060, 6), (RX0, TX0, 14), (RX1, TX1, 14)]
end
section
theorem dX0_init_0 : decode cX0_init 0 = .ok (.aload_n 0, 1) := by decide +kernel
theorem dX0_init_1 : decode cX0_init 1 = .ok (.invokespecial 1, 3) := by decide +kernel
theorem dX0_init_4 : decode cX0_init 4 = .ok (.iconst 1, 1) := by decide +kernel
theorem dX0_init_5 : decode cX0_init 5 = .ok (.bipush 40, 2) := by decide +kernel
theorem dX0_init_7 : decode cX0_init 7 = .ok (.iload_n 1, 1) := by decide +kernel
theorem dX0_init_8 : decode cX0_init 8 = .ok (.invokestatic 9, 3) := by decide +kernel
theorem dX0_init_11 : decode cX0_init 11 = .ok (.invokestatic 15, 3) := by decide +kernel
theorem dX0_init_14 : decode cX0_init 14 = .ok (.istore_n 2, 1) := by decide +kernel
theorem dX0_init_15 : decode cX0_init 15 = .ok (.aload_n 0, 1) := by decide +kernel
theorem dX0_init_16 : decode cX0_init 16 = .ok (.iload_n 2, 1) := by decide +kernel
theorem dX0_init_17 : decode cX0_init 17 = .ok (.putfield 18, 3) := by decide +kernel
theorem dX0_init_20 : decode cX0_init 20 = .ok (.aload_n 0, 1) := by decide +kernel
theorem dX0_init_21 : decode cX0_init 21 = .ok (.lconst 1, 1) := by decide +kernel
theorem dX0_init_22 : decode cX0_init 22 = .ok (.iload_n 2, 1) := by decide +kernel
theorem dX0_init_23 : decode cX0_init 23 = .ok (.lshl, 1) := by decide +kernel
theorem dX0_init_24 : decode cX0_init 24 = .ok (.lconst 1, 1) := by decide +kernel
theorem dX0_init_25 : decode cX0_init 25 = .ok (.lsub, 1) := by decide +kernel
theorem dX0_init_26 : decode cX0_init 26 = .ok (.putfield 22, 3) := by decide +kernel
theorem dX0_init_29 : decode cX0_init 29 = .ok (.aload_n 0, 1) := by decide +kernel
theorem dX0_init_30 : decode cX0_init 30 = .ok (.iload_n 2, 1) := by decide +kernel
theorem dX0_init_31 : decode cX0_init 31 = .ok (.newarray .int, 2) := by decide +kernel
theorem dX0_init_33 : decode cX0_init 33 = .ok (.putfield 26, 3) := by decide +kernel
theorem dX0_init_36 : decode cX0_init 36 = .ok (.aload_n 0, 1) := by decide +kernel
theorem dX0_init_37 : decode cX0_init 37 = .ok (.iload_n 2, 1) := by decide +kernel
theorem dX0_init_38 : decode cX0_init 38 = .ok (.iload_n 2, 1) := by decide +kernel
theorem dX0_init_39 : decode cX0_init 39 = .ok (.imul, 1) := by decide +kernel
theorem dX0_init_40 : decode cX0_init 40 = .ok (.newarray .int, 2) := by decide +kernel
theorem dX0_init_42 : decode cX0_init 42 = .ok (.putfield 30, 3) := by decide +kernel
theorem dX0_init_45 : decode cX0_init 45 = .ok (.aload_n 0, 1) := by decide +kernel
theorem dX0_init_46 : decode cX0_init 46 = .ok (.bipush 12, 2) := by decide +kernel
theorem dX0_init_48 : decode cX0_init 48 = .ok (.newarray .int, 2) := by decide +kernel
theorem dX0_init_50 : decode cX0_init 50 = .ok (.putfield 33, 3) := by decide +kernel
theorem dX0_init_53 : decode cX0_init 53 = .ok (.aload_n 0, 1) := by decide +kernel
theorem dX0_init_54 : decode cX0_init 54 = .ok (.bipush 12, 2) := by decide +kernel
theorem dX0_init_56 : decode cX0_init 56 = .ok (.newarray .int, 2) := by decide +kernel
theorem dX0_init_58 : decode cX0_init 58 = .ok (.putfield 36, 3) := by decide +kernel
theorem dX0_init_61 : decode cX0_init 61 = .ok (.aload_n 0, 1) := by decide +kernel
theorem dX0_init_62 : decode cX0_init 62 = .ok (.bipush 12, 2) := by decide +kernel
theorem dX0_init_64 : decode cX0_init 64 = .ok (.newarray .int, 2) := by decide +kernel
theorem dX0_init_66 : decode cX0_init 66 = .ok (.putfield 39, 3) := by decide +kernel
theorem dX0_init_69 : decode cX0_init 69 = .ok (.aload_n 0, 1) := by decide +kernel
theorem dX0_init_70 : decode cX0_init 70 = .ok (.bipush 12, 2) := by decide +kernel
theorem dX0_init_72 : decode cX0_init 72 = .ok (.iload_n 2, 1) := by decide +kernel
theorem dX0_init_73 : decode cX0_init 73 = .ok (.multianewarray 42 2, 4) := by decide +kernel
theorem dX0_init_77 : decode cX0_init 77 = .ok (.putfield 44, 3) := by decide +kernel
theorem dX0_init_80 : decode cX0_init 80 = .ok (.aload_n 0, 1) := by decide +kernel
theorem dX0_init_81 : decode cX0_init 81 = .ok (.iconst 2, 1) := by decide +kernel
theorem dX0_init_82 : decode cX0_init 82 = .ok (.newarray .int, 2) := by decide +kernel
theorem dX0_init_84 : decode cX0_init 84 = .ok (.putfield 47, 3) := by decide +kernel
theorem dX0_init_87 : decode cX0_init 87 = .ok (.aload_n 0, 1) := by decide +kernel
theorem dX0_init_88 : decode cX0_init 88 = .ok (.iconst 2, 1) := by decide +kernel
theorem dX0_init_89 : decode cX0_init 89 = .ok (.newarray .int, 2) := by decide +kernel
theorem dX0_init_91 : decode cX0_init 91 = .ok (.putfield 50, 3) := by decide +kernel
theorem dX0_init_94 : decode cX0_init 94 = .ok (.aload_n 0, 1) := by decide +kernel
theorem dX0_init_95 : decode cX0_init 95 = .ok (.iload_n 2, 1) := by decide +kernel
theorem dX0_init_96 : decode cX0_init 96 = .ok (.newarray .int, 2) := by decide +kernel
theorem dX0_init_98 : decode cX0_init 98 = .ok (.putfield 53, 3) := by decide +kernel
theorem dX0_init_101 : decode cX0_init 101 = .ok (.return_, 1) := by decide +kernel
theorem dX0_clear_0 : decode cX0_clear 0 = .ok (.aload_n 0, 1) := by decide +kernel
theorem dX0_clear_1 : decode cX0_clear 1 = .ok (.getfield 56, 3) := by decide +kernel
theorem dX0_clear_4 : decode cX0_clear 4 = .ok (.istore_n 1, 1) := by decide +kernel
theorem dX0_clear_5 : decode cX0_clear 5 = .ok (.aload_n 0, 1) := by decide +kernel
theorem dX0_clear_6 : decode cX0_clear 6 = .ok (.iconst 0, 1) := by decide +kernel
theorem dX0_clear_7 : decode cX0_clear 7 = .ok (.putfield 56, 3) := by decide +kernel
theorem dX0_clear_10 : decode cX0_clear 10 = .ok (.aload_n 0, 1) := by decide +kernel
theorem dX0_clear_11 : decode cX0_clear 11 = .ok (.iconst 0, 1) := by decide +kernel
theorem dX0_clear_12 : decode cX0_clear 12 = .ok (.putfield 59, 3) := by decide +kernel
theorem dX0_clear_15 : decode cX0_clear 15 = .ok (.aload_n 0, 1) := by decide +kernel
theorem dX0_clear_16 : decode cX0_clear 16 = .ok (.iconst 0, 1) := by decide +kernel
theorem dX0_clear_17 : decode cX0_clear 17 = .ok (.putfield 62, 3) := by decide +kernel
theorem dX0_clear_20 : decode cX0_clear 20 = .ok (.aload_n 0, 1) := by decide +kernel
theorem dX0_clear_21 : decode cX0_clear 21 = .ok (.getfield 26, 3) := by decide +kernel
theorem dX0_clear_24 : decode cX0_clear 24 = .ok (.iconst 0, 1) := by decide +kernel
theorem dX0_clear_25 : decode cX0_clear 25 = .ok (.invokestatic 65, 3) := by decide +kernel
theorem dX0_clear_28 : decode cX0_clear 28 = .ok (.aload_n 0, 1) := by decide +kernel
theorem dX0_clear_29 : decode cX0_clear 29 = .ok (.getfield 30, 3) := by decide +kernel
theorem dX0_clear_32 : decode cX0_clear 32 = .ok (.iconst 0, 1) := by decide +kernel
theorem dX0_clear_33 : decode cX0_clear 33 = .ok (.invokestatic 65, 3) := by decide +kernel
theorem dX0_clear_36 : decode cX0_clear 36 = .ok (.iload_n 1, 1) := by decide +kernel
theorem dX0_clear_37 : decode cX0_clear 37 = .ok (.ireturn, 1) := by decide +kernel
theorem dX0_kind_0 : decode cX0_kind 0 = .ok (.aload_n 0, 1) := by decide +kernel
theorem dX0_kind_1 : decode cX0_kind 1 = .ok (.iload_n 1, 1) := by decide +kernel
theorem dX0_kind_2 : decode cX0_kind 2 = .ok (.invokevirtual 71, 3) := by decide +kernel
theorem dX0_kind_5 : decode cX0_kind 5 = .ok (.iload_n 2, 1) := by decide +kernel
theorem dX0_kind_6 : decode cX0_kind 6 = .ok (.ifCond .lt 8, 3) := by decide +kernel
theorem dX0_kind_9 : decode cX0_kind 9 = .ok (.iload_n 2, 1) := by decide +kernel
theorem dX0_kind_10 : decode cX0_kind 10 = .ok (.iconst 3, 1) := by decide +kernel
theorem dX0_kind_11 : decode cX0_kind 11 = .ok (.if_icmp .le 13, 3) := by decide +kernel
theorem dX0_kind_14 : decode cX0_kind 14 = .ok (.new 75, 3) := by decide +kernel
theorem dX0_kind_17 : decode cX0_kind 17 = .ok (.dup, 1) := by decide +kernel
theorem dX0_kind_18 : decode cX0_kind 18 = .ok (.ldc 77, 2) := by decide +kernel
theorem dX0_kind_20 : decode cX0_kind 20 = .ok (.invokespecial 79, 3) := by decide +kernel
theorem dX0_kind_23 : decode cX0_kind 23 = .ok (.athrow, 1) := by decide +kernel
theorem dX0_kind_24 : decode cX0_kind 24 = .ok (.aload_n 0, 1) := by decide +kernel
theorem dX0_kind_25 : decode cX0_kind 25 = .ok (.getfield 56, 3) := by decide +kernel
theorem dX0_kind_28 : decode cX0_kind 28 = .ok (.ifCond .le 13, 3) := by decide +kernel
theorem dX0_kind_31 : decode cX0_kind 31 = .ok (.new 82, 3) := by decide +kernel
theorem dX0_kind_34 : decode cX0_kind 34 = .ok (.dup, 1) := by decide +kernel
theorem dX0_kind_35 : decode cX0_kind 35 = .ok (.ldc 84, 2) := by decide +kernel
theorem dX0_kind_37 : decode cX0_kind 37 = .ok (.invokespecial 86, 3) := by decide +kernel
theorem dX0_kind_40 : decode cX0_kind 40 = .ok (.athrow, 1) := by decide +kernel
theorem dX0_kind_41 : decode cX0_kind 41 = .ok (.aload_n 0, 1) := by decide +kernel
theorem dX0_kind_42 : decode cX0_kind 42 = .ok (.getfield 26, 3) := by decide +kernel
theorem dX0_kind_45 : decode cX0_kind 45 = .ok (.iload_n 1, 1) := by decide +kernel
theorem dX0_kind_46 : decode cX0_kind 46 = .ok (.iaload, 1) := by decide +kernel
theorem dX0_kind_47 : decode cX0_kind 47 = .ok (.istore_n 3, 1) := by decide +kernel
theorem dX0_kind_48 : decode cX0_kind 48 = .ok (.aload_n 0, 1) := by decide +kernel
theorem dX0_kind_49 : decode cX0_kind 49 = .ok (.getfield 26, 3) := by decide +kernel
theorem dX0_kind_52 : decode cX0_kind 52 = .ok (.iload_n 1, 1) := by decide +kernel
theorem dX0_kind_53 : decode cX0_kind 53 = .ok (.iload_n 2, 1) := by decide +kernel
theorem dX0_kind_54 : decode cX0_kind 54 = .ok (.iastore, 1) := by decide +kernel
theorem dX0_kind_55 : decode cX0_kind 55 = .ok (.iload_n 3, 1) := by decide +kernel
theorem dX0_kind_56 : decode cX0_kind 56 = .ok (.ireturn, 1) := by decide +kernel
theorem dX0_relation_0 : decode cX0_relation 0 = .ok (.iload_n 1, 1) := by decide +kernel
theorem dX0_relation_1 : decode cX0_relation 1 = .ok (.ifCond .lt 9, 3) := by decide +kernel
theorem dX0_relation_4 : decode cX0_relation 4 = .ok (.iload_n 1, 1) := by decide +kernel
theorem dX0_relation_5 : decode cX0_relation 5 = .ok (.bipush 6, 2) := by decide +kernel
theorem dX0_relation_7 : decode cX0_relation 7 = .ok (.if_icmp .le 13, 3) := by decide +kernel
theorem dX0_relation_10 : decode cX0_relation 10 = .ok (.new 75, 3) := by decide +kernel
theorem dX0_relation_13 : decode cX0_relation 13 = .ok (.dup, 1) := by decide +kernel
theorem dX0_relation_14 : decode cX0_relation 14 = .ok (.ldc 87, 2) := by decide +kernel
theorem dX0_relation_16 : decode cX0_relation 16 = .ok (.invokespecial 79, 3) := by decide +kernel
theorem dX0_relation_19 : decode cX0_relation 19 = .ok (.athrow, 1) := by decide +kernel
theorem dX0_relation_20 : decode cX0_relation 20 = .ok (.aload_n 0, 1) := by decide +kernel
theorem dX0_relation_21 : decode cX0_relation 21 = .ok (.iload_n 2, 1) := by decide +kernel
theorem dX0_relation_22 : decode cX0_relation 22 = .ok (.invokevirtual 89, 3) := by decide +kernel
theorem dX0_relation_25 : decode cX0_relation 25 = .ok (.aload_n 0, 1) := by decide +kernel
theorem dX0_relation_26 : decode cX0_relation 26 = .ok (.iload_n 3, 1) := by decide +kernel
theorem dX0_relation_27 : decode cX0_relation 27 = .ok (.invokevirtual 89, 3) := by decide +kernel
theorem dX0_relation_30 : decode cX0_relation 30 = .ok (.iload_n 1, 1) := by decide +kernel
theorem dX0_relation_31 : decode cX0_relation 31 = .ok (.iconst 4, 1) := by decide +kernel
theorem dX0_relation_32 : decode cX0_relation 32 = .ok (.if_icmp .lt 18, 3) := by decide +kernel
theorem dX0_relation_35 : decode cX0_relation 35 = .ok (.iload_n 2, 1) := by decide +kernel
theorem dX0_relation_36 : decode cX0_relation 36 = .ok (.iload_n 3, 1) := by decide +kernel
theorem dX0_relation_37 : decode cX0_relation 37 = .ok (.if_icmp .eq 13, 3) := by decide +kernel
theorem dX0_relation_40 : decode cX0_relation 40 = .ok (.new 75, 3) := by decide +kernel
theorem dX0_relation_43 : decode cX0_relation 43 = .ok (.dup, 1) := by decide +kernel
theorem dX0_relation_44 : decode cX0_relation 44 = .ok (.ldc 92, 2) := by decide +kernel
theorem dX0_relation_46 : decode cX0_relation 46 = .ok (.invokespecial 79, 3) := by decide +kernel
theorem dX0_relation_49 : decode cX0_relation 49 = .ok (.athrow, 1) := by decide +kernel
theorem dX0_relation_50 : decode cX0_relation 50 = .ok (.aload_n 0, 1) := by decide +kernel
theorem dX0_relation_51 : decode cX0_relation 51 = .ok (.invokevirtual 94, 3) := by decide +kernel
theorem dX0_relation_54 : decode cX0_relation 54 = .ok (.aload_n 0, 1) := by decide +kernel
theorem dX0_relation_55 : decode cX0_relation 55 = .ok (.iload_n 1, 1) := by decide +kernel
theorem dX0_relation_56 : decode cX0_relation 56 = .ok (.iload_n 2, 1) := by decide +kernel
theorem dX0_relation_57 : decode cX0_relation 57 = .ok (.iload_n 3, 1) := by decide +kernel
theorem dX0_relation_58 : decode cX0_relation 58 = .ok (.invokevirtual 97, 3) := by decide +kernel
theorem dX0_relation_61 : decode cX0_relation 61 = .ok (.istore 4, 2) := by decide +kernel
theorem dX0_relation_63 : decode cX0_relation 63 = .ok (.aload_n 0, 1) := by decide +kernel
theorem dX0_relation_64 : decode cX0_relation 64 = .ok (.iload 4, 2) := by decide +kernel
theorem dX0_relation_66 : decode cX0_relation 66 = .ok (.invokevirtual 101, 3) := by decide +kernel
theorem dX0_relation_69 : decode cX0_relation 69 = .ok (.iload 4, 2) := by decide +kernel
theorem dX0_relation_71 : decode cX0_relation 71 = .ok (.ireturn, 1) := by decide +kernel
theorem dX0_condition_0 : decode cX0_condition 0 = .ok (.iload_n 1, 1) := by decide +kernel
theorem dX0_condition_1 : decode cX0_condition 1 = .ok (.ifCond .lt 8, 3) := by decide +kernel
theorem dX0_condition_4 : decode cX0_condition 4 = .ok (.iload_n 1, 1) := by decide +kernel
theorem dX0_condition_5 : decode cX0_condition 5 = .ok (.iconst 5, 1) := by decide +kernel
theorem dX0_condition_6 : decode cX0_condition 6 = .ok (.if_icmp .le 13, 3) := by decide +kernel
theorem dX0_condition_9 : decode cX0_condition 9 = .ok (.new 75, 3) := by decide +kernel
theorem dX0_condition_12 : decode cX0_condition 12 = .ok (.dup, 1) := by decide +kernel
theorem dX0_condition_13 : decode cX0_condition 13 = .ok (.ldc 104, 2) := by decide +kernel
theorem dX0_condition_15 : decode cX0_condition 15 = .ok (.invokespecial 79, 3) := by decide +kernel
theorem dX0_condition_18 : decode cX0_condition 18 = .ok (.athrow, 1) := by decide +kernel
theorem dX0_condition_19 : decode cX0_condition 19 = .ok (.aload_n 0, 1) := by decide +kernel
theorem dX0_condition_20 : decode cX0_condition 20 = .ok (.iload_n 2, 1) := by decide +kernel
theorem dX0_condition_21 : decode cX0_condition 21 = .ok (.invokevirtual 106, 3) := by decide +kernel
theorem dX0_condition_24 : decode cX0_condition 24 = .ok (.iload_n 1, 1) := by decide +kernel
theorem dX0_condition_25 : decode cX0_condition 25 = .ok (.invokestatic 109, 3) := by decide +kernel
theorem dX0_condition_28 : decode cX0_condition 28 = .ok (.ifCond .eq 11, 3) := by decide +kernel
theorem dX0_condition_31 : decode cX0_condition 31 = .ok (.aload_n 0, 1) := by decide +kernel
theorem dX0_condition_32 : decode cX0_condition 32 = .ok (.iload_n 3, 1) := by decide +kernel
theorem dX0_condition_33 : decode cX0_condition 33 = .ok (.invokevirtual 106, 3) := by decide +kernel
theorem dX0_condition_36 : decode cX0_condition 36 = .ok (.goto 18, 3) := by decide +kernel
theorem dX0_condition_39 : decode cX0_condition 39 = .ok (.iload_n 3, 1) := by decide +kernel
theorem dX0_condition_40 : decode cX0_condition 40 = .ok (.iconst (-1), 1) := by decide +kernel
theorem dX0_condition_41 : decode cX0_condition 41 = .ok (.if_icmp .eq 13, 3) := by decide +kernel
theorem dX0_condition_44 : decode cX0_condition 44 = .ok (.new 75, 3) := by decide +kernel
theorem dX0_condition_47 : decode cX0_condition 47 = .ok (.dup, 1) := by decide +kernel
theorem dX0_condition_48 : decode cX0_condition 48 = .ok (.ldc 113, 2) := by decide +kernel
theorem dX0_condition_50 : decode cX0_condition 50 = .ok (.invokespecial 79, 3) := by decide +kernel
theorem dX0_condition_53 : decode cX0_condition 53 = .ok (.athrow, 1) := by decide +kernel
theorem dX0_condition_54 : decode cX0_condition 54 = .ok (.aload_n 0, 1) := by decide +kernel
theorem dX0_condition_55 : decode cX0_condition 55 = .ok (.invokevirtual 94, 3) := by decide +kernel
theorem dX0_condition_58 : decode cX0_condition 58 = .ok (.aload_n 0, 1) := by decide +kernel
theorem dX0_condition_59 : decode cX0_condition 59 = .ok (.bipush 10, 2) := by decide +kernel
theorem dX0_condition_61 : decode cX0_condition 61 = .ok (.iload_n 1, 1) := by decide +kernel
theorem dX0_condition_62 : decode cX0_condition 62 = .ok (.iadd, 1) := by decide +kernel
theorem dX0_condition_63 : decode cX0_condition 63 = .ok (.iload_n 2, 1) := by decide +kernel
theorem dX0_condition_64 : decode cX0_condition 64 = .ok (.iload_n 3, 1) := by decide +kernel
theorem dX0_condition_65 : decode cX0_condition 65 = .ok (.invokevirtual 97, 3) := by decide +kernel
theorem dX0_condition_68 : decode cX0_condition 68 = .ok (.ireturn, 1) := by decide +kernel
theorem dX0_set_0 : decode cX0_set 0 = .ok (.aload_n 0, 1) := by decide +kernel
theorem dX0_set_1 : decode cX0_set 1 = .ok (.iload_n 1, 1) := by decide +kernel
theorem dX0_set_2 : decode cX0_set 2 = .ok (.iload_n 2, 1) := by decide +kernel
theorem dX0_set_3 : decode cX0_set 3 = .ok (.iload_n 3, 1) := by decide +kernel
theorem dX0_set_4 : decode cX0_set 4 = .ok (.invokevirtual 115, 3) := by decide +kernel
theorem dX0_set_7 : decode cX0_set 7 = .ok (.aload_n 0, 1) := by decide +kernel
theorem dX0_set_8 : decode cX0_set 8 = .ok (.iconst 0, 1) := by decide +kernel
theorem dX0_set_9 : decode cX0_set 9 = .ok (.putfield 62, 3) := by decide +kernel
theorem dX0_set_12 : decode cX0_set 12 = .ok (.aload_n 0, 1) := by decide +kernel
theorem dX0_set_13 : decode cX0_set 13 = .ok (.getfield 30, 3) := by decide +kernel
theorem dX0_set_16 : decode cX0_set 16 = .ok (.iload_n 2, 1) := by decide +kernel
theorem dX0_set_17 : decode cX0_set 17 = .ok (.aload_n 0, 1) := by decide +kernel
theorem dX0_set_18 : decode cX0_set 18 = .ok (.getfield 18, 3) := by decide +kernel
theorem dX0_set_21 : decode cX0_set 21 = .ok (.imul, 1) := by decide +kernel
theorem dX0_set_22 : decode cX0_set 22 = .ok (.iload_n 3, 1) := by decide +kernel
theorem dX0_set_23 : decode cX0_set 23 = .ok (.iadd, 1) := by decide +kernel
theorem dX0_set_24 : decode cX0_set 24 = .ok (.dup2, 1) := by decide +kernel
theorem dX0_set_25 : decode cX0_set 25 = .ok (.iaload, 1) := by decide +kernel
theorem dX0_set_26 : decode cX0_set 26 = .ok (.iconst 1, 1) := by decide +kernel
theorem dX0_set_27 : decode cX0_set 27 = .ok (.iadd, 1) := by decide +kernel
theorem dX0_set_28 : decode cX0_set 28 = .ok (.iastore, 1) := by decide +kernel
theorem dX0_set_29 : decode cX0_set 29 = .ok (.aload_n 0, 1) := by decide +kernel
theorem dX0_set_30 : decode cX0_set 30 = .ok (.iload_n 1, 1) := by decide +kernel
theorem dX0_set_31 : decode cX0_set 31 = .ok (.iload_n 2, 1) := by decide +kernel
theorem dX0_set_32 : decode cX0_set 32 = .ok (.iload_n 3, 1) := by decide +kernel
theorem dX0_set_33 : decode cX0_set 33 = .ok (.invokevirtual 119, 3) := by decide +kernel
theorem dX0_set_36 : decode cX0_set 36 = .ok (.ifCond .ne 22, 3) := by decide +kernel
theorem dX0_set_39 : decode cX0_set 39 = .ok (.aload_n 0, 1) := by decide +kernel
theorem dX0_set_40 : decode cX0_set 40 = .ok (.iload_n 1, 1) := by decide +kernel
theorem dX0_set_41 : decode cX0_set 41 = .ok (.iload_n 2, 1) := by decide +kernel
theorem dX0_set_42 : decode cX0_set 42 = .ok (.iload_n 3, 1) := by decide +kernel
theorem dX0_set_43 : decode cX0_set 43 = .ok (.invokevirtual 123, 3) := by decide +kernel
theorem dX0_set_46 : decode cX0_set 46 = .ok (.aload_n 0, 1) := by decide +kernel
theorem dX0_set_47 : decode cX0_set 47 = .ok (.iload_n 1, 1) := by decide +kernel
theorem dX0_set_48 : decode cX0_set 48 = .ok (.iload_n 2, 1) := by decide +kernel
theorem dX0_set_49 : decode cX0_set 49 = .ok (.iload_n 3, 1) := by decide +kernel
theorem dX0_set_50 : decode cX0_set 50 = .ok (.invokevirtual 126, 3) := by decide +kernel
theorem dX0_set_53 : decode cX0_set 53 = .ok (.aload_n 0, 1) := by decide +kernel
theorem dX0_set_54 : decode cX0_set 54 = .ok (.iload_n 1, 1) := by decide +kernel
theorem dX0_set_55 : decode cX0_set 55 = .ok (.invokevirtual 129, 3) := by decide +kernel
theorem dX0_set_58 : decode cX0_set 58 = .ok (.aload_n 0, 1) := by decide +kernel
theorem dX0_set_59 : decode cX0_set 59 = .ok (.getfield 62, 3) := by decide +kernel
theorem dX0_set_62 : decode cX0_set 62 = .ok (.ireturn, 1) := by decide +kernel
theorem dX0_drop_0 : decode cX0_drop 0 = .ok (.aload_n 0, 1) := by decide +kernel
theorem dX0_drop_1 : decode cX0_drop 1 = .ok (.iload_n 1, 1) := by decide +kernel
theorem dX0_drop_2 : decode cX0_drop 2 = .ok (.iload_n 2, 1) := by decide +kernel
theorem dX0_drop_3 : decode cX0_drop 3 = .ok (.iload_n 3, 1) := by decide +kernel
theorem dX0_drop_4 : decode cX0_drop 4 = .ok (.invokevirtual 115, 3) := by decide +kernel
theorem dX0_drop_7 : decode cX0_drop 7 = .ok (.aload_n 0, 1) := by decide +kernel
theorem dX0_drop_8 : decode cX0_drop 8 = .ok (.iload_n 1, 1) := by decide +kernel
theorem dX0_drop_9 : decode cX0_drop 9 = .ok (.iload_n 2, 1) := by decide +kernel
theorem dX0_drop_10 : decode cX0_drop 10 = .ok (.iload_n 3, 1) := by decide +kernel
theorem dX0_drop_11 : decode cX0_drop 11 = .ok (.invokevirtual 119, 3) := by decide +kernel
theorem dX0_drop_14 : decode cX0_drop 14 = .ok (.ifCond .eq 19, 3) := by decide +kernel
theorem dX0_drop_17 : decode cX0_drop 17 = .ok (.aload_n 0, 1) := by decide +kernel
theorem dX0_drop_18 : decode cX0_drop 18 = .ok (.getfield 33, 3) := by decide +kernel
theorem dX0_drop_21 : decode cX0_drop 21 = .ok (.iload_n 1, 1) := by decide +kernel
theorem dX0_drop_22 : decode cX0_drop 22 = .ok (.iaload, 1) := by decide +kernel
theorem dX0_drop_23 : decode cX0_drop 23 = .ok (.bipush 6, 2) := by decide +kernel
theorem dX0_drop_25 : decode cX0_drop 25 = .ok (.if_icmp .ne 10, 3) := by decide +kernel
theorem dX0_drop_28 : decode cX0_drop 28 = .ok (.iload_n 2, 1) := by decide +kernel
theorem dX0_drop_29 : decode cX0_drop 29 = .ok (.iload_n 3, 1) := by decide +kernel
theorem dX0_drop_30 : decode cX0_drop 30 = .ok (.if_icmp .ne 5, 3) := by decide +kernel
theorem dX0_drop_33 : decode cX0_drop 33 = .ok (.iconst 0, 1) := by decide +kernel
theorem dX0_drop_34 : decode cX0_drop 34 = .ok (.ireturn, 1) := by decide +kernel
theorem dX0_drop_35 : decode cX0_drop 35 = .ok (.aload_n 0, 1) := by decide +kernel
theorem dX0_drop_36 : decode cX0_drop 36 = .ok (.iload_n 1, 1) := by decide +kernel
theorem dX0_drop_37 : decode cX0_drop 37 = .ok (.iload_n 2, 1) := by decide +kernel
theorem dX0_drop_38 : decode cX0_drop 38 = .ok (.iload_n 3, 1) := by decide +kernel
theorem dX0_drop_39 : decode cX0_drop 39 = .ok (.invokevirtual 132, 3) := by decide +kernel
theorem dX0_drop_42 : decode cX0_drop 42 = .ok (.aload_n 0, 1) := by decide +kernel
theorem dX0_drop_43 : decode cX0_drop 43 = .ok (.iload_n 1, 1) := by decide +kernel
theorem dX0_drop_44 : decode cX0_drop 44 = .ok (.invokevirtual 129, 3) := by decide +kernel
theorem dX0_drop_47 : decode cX0_drop 47 = .ok (.iconst 1, 1) := by decide +kernel
theorem dX0_drop_48 : decode cX0_drop 48 = .ok (.ireturn, 1) := by decide +kernel
theorem dX0_empty_0 : decode cX0_empty 0 = .ok (.aload_n 0, 1) := by decide +kernel
theorem dX0_empty_1 : decode cX0_empty 1 = .ok (.iload_n 1, 1) := by decide +kernel
theorem dX0_empty_2 : decode cX0_empty 2 = .ok (.invokevirtual 106, 3) := by decide +kernel
theorem dX0_empty_5 : decode cX0_empty 5 = .ok (.aload_n 0, 1) := by decide +kernel
theorem dX0_empty_6 : decode cX0_empty 6 = .ok (.iload_n 1, 1) := by decide +kernel
theorem dX0_empty_7 : decode cX0_empty 7 = .ok (.invokevirtual 135, 3) := by decide +kernel
theorem dX0_empty_10 : decode cX0_empty 10 = .ok (.aload_n 0, 1) := by decide +kernel
theorem dX0_empty_11 : decode cX0_empty 11 = .ok (.iload_n 1, 1) := by decide +kernel
theorem dX0_empty_12 : decode cX0_empty 12 = .ok (.invokevirtual 138, 3) := by decide +kernel
theorem dX0_empty_15 : decode cX0_empty 15 = .ok (.istore_n 2, 1) := by decide +kernel
theorem dX0_empty_16 : decode cX0_empty 16 = .ok (.aload_n 0, 1) := by decide +kernel
theorem dX0_empty_17 : decode cX0_empty 17 = .ok (.iload_n 1, 1) := by decide +kernel
theorem dX0_empty_18 : decode cX0_empty 18 = .ok (.invokevirtual 101, 3) := by decide +kernel
theorem dX0_empty_21 : decode cX0_empty 21 = .ok (.aload_n 0, 1) := by decide +kernel
theorem dX0_empty_22 : decode cX0_empty 22 = .ok (.iload_n 1, 1) := by decide +kernel
theorem dX0_empty_23 : decode cX0_empty 23 = .ok (.invokevirtual 129, 3) := by decide +kernel
theorem dX0_empty_26 : decode cX0_empty 26 = .ok (.iload_n 2, 1) := by decide +kernel
theorem dX0_empty_27 : decode cX0_empty 27 = .ok (.aload_n 0, 1) := by decide +kernel
theorem dX0_empty_28 : decode cX0_empty 28 = .ok (.iload_n 1, 1) := by decide +kernel
theorem dX0_empty_29 : decode cX0_empty 29 = .ok (.invokevirtual 138, 3) := by decide +kernel
theorem dX0_empty_32 : decode cX0_empty 32 = .ok (.isub, 1) := by decide +kernel
theorem dX0_empty_33 : decode cX0_empty 33 = .ok (.ireturn, 1) := by decide +kernel
theorem dX0_pushed_0 : decode cX0_pushed 0 = .ok (.iload_n 2, 1) := by decide +kernel
theorem dX0_pushed_1 : decode cX0_pushed 1 = .ok (.ifCond .eq 18, 3) := by decide +kernel
theorem dX0_pushed_4 : decode cX0_pushed 4 = .ok (.iload_n 2, 1) := by decide +kernel
theorem dX0_pushed_5 : decode cX0_pushed 5 = .ok (.iconst 1, 1) := by decide +kernel
theorem dX0_pushed_6 : decode cX0_pushed 6 = .ok (.if_icmp .eq 13, 3) := by decide +kernel
theorem dX0_pushed_9 : decode cX0_pushed 9 = .ok (.new 75, 3) := by decide +kernel
theorem dX0_pushed_12 : decode cX0_pushed 12 = .ok (.dup, 1) := by decide +kernel
theorem dX0_pushed_13 : decode cX0_pushed 13 = .ok (.ldc 142, 2) := by decide +kernel
theorem dX0_pushed_15 : decode cX0_pushed 15 = .ok (.invokespecial 79, 3) := by decide +kernel
theorem dX0_pushed_18 : decode cX0_pushed 18 = .ok (.athrow, 1) := by decide +kernel
theorem dX0_pushed_19 : decode cX0_pushed 19 = .ok (.iload_n 1, 1) := by decide +kernel
theorem dX0_pushed_20 : decode cX0_pushed 20 = .ok (.ifCond .lt 11, 3) := by decide +kernel
theorem dX0_pushed_23 : decode cX0_pushed 23 = .ok (.iload_n 1, 1) := by decide +kernel
theorem dX0_pushed_24 : decode cX0_pushed 24 = .ok (.aload_n 0, 1) := by decide +kernel
theorem dX0_pushed_25 : decode cX0_pushed 25 = .ok (.getfield 62, 3) := by decide +kernel
theorem dX0_pushed_28 : decode cX0_pushed 28 = .ok (.if_icmp .lt 13, 3) := by decide +kernel
theorem dX0_pushed_31 : decode cX0_pushed 31 = .ok (.new 144, 3) := by decide +kernel
theorem dX0_pushed_34 : decode cX0_pushed 34 = .ok (.dup, 1) := by decide +kernel
theorem dX0_pushed_35 : decode cX0_pushed 35 = .ok (.ldc 146, 2) := by decide +kernel
theorem dX0_pushed_37 : decode cX0_pushed 37 = .ok (.invokespecial 148, 3) := by decide +kernel
theorem dX0_pushed_40 : decode cX0_pushed 40 = .ok (.athrow, 1) := by decide +kernel
theorem dX0_pushed_41 : decode cX0_pushed 41 = .ok (.iload_n 2, 1) := by decide +kernel
theorem dX0_pushed_42 : decode cX0_pushed 42 = .ok (.ifCond .ne 12, 3) := by decide +kernel
theorem dX0_pushed_45 : decode cX0_pushed 45 = .ok (.aload_n 0, 1) := by decide +kernel
theorem dX0_pushed_46 : decode cX0_pushed 46 = .ok (.getfield 47, 3) := by decide +kernel
theorem dX0_pushed_49 : decode cX0_pushed 49 = .ok (.iload_n 1, 1) := by decide +kernel
theorem dX0_pushed_50 : decode cX0_pushed 50 = .ok (.iaload, 1) := by decide +kernel
theorem dX0_pushed_51 : decode cX0_pushed 51 = .ok (.goto 9, 3) := by decide +kernel
theorem dX0_pushed_54 : decode cX0_pushed 54 = .ok (.aload_n 0, 1) := by decide +kernel
theorem dX0_pushed_55 : decode cX0_pushed 55 = .ok (.getfield 50, 3) := by decide +kernel
theorem dX0_pushed_58 : decode cX0_pushed 58 = .ok (.iload_n 1, 1) := by decide +kernel
theorem dX0_pushed_59 : decode cX0_pushed 59 = .ok (.iaload, 1) := by decide +kernel
theorem dX0_pushed_60 : decode cX0_pushed 60 = .ok (.ireturn, 1) := by decide +kernel
theorem dX0_has_0 : decode cX0_has 0 = .ok (.aload_n 0, 1) := by decide +kernel
theorem dX0_has_1 : decode cX0_has 1 = .ok (.iload_n 1, 1) := by decide +kernel
theorem dX0_has_2 : decode cX0_has 2 = .ok (.invokevirtual 106, 3) := by decide +kernel
theorem dX0_has_5 : decode cX0_has 5 = .ok (.aload_n 0, 1) := by decide +kernel
theorem dX0_has_6 : decode cX0_has 6 = .ok (.iload_n 2, 1) := by decide +kernel
theorem dX0_has_7 : decode cX0_has 7 = .ok (.invokevirtual 71, 3) := by decide +kernel
theorem dX0_has_10 : decode cX0_has 10 = .ok (.aload_n 0, 1) := by decide +kernel
theorem dX0_has_11 : decode cX0_has 11 = .ok (.iload_n 3, 1) := by decide +kernel
theorem dX0_has_12 : decode cX0_has 12 = .ok (.invokevirtual 71, 3) := by decide +kernel
theorem dX0_has_15 : decode cX0_has 15 = .ok (.aload_n 0, 1) := by decide +kernel
theorem dX0_has_16 : decode cX0_has 16 = .ok (.iload_n 1, 1) := by decide +kernel
theorem dX0_has_17 : decode cX0_has 17 = .ok (.invokevirtual 149, 3) := by decide +kernel
theorem dX0_has_20 : decode cX0_has 20 = .ok (.aload_n 0, 1) := by decide +kernel
theorem dX0_has_21 : decode cX0_has 21 = .ok (.iload_n 1, 1) := by decide +kernel
theorem dX0_has_22 : decode cX0_has 22 = .ok (.iload_n 2, 1) := by decide +kernel
theorem dX0_has_23 : decode cX0_has 23 = .ok (.iload_n 3, 1) := by decide +kernel
theorem dX0_has_24 : decode cX0_has 24 = .ok (.invokevirtual 119, 3) := by decide +kernel
theorem dX0_has_27 : decode cX0_has 27 = .ok (.ireturn, 1) := by decide +kernel
theorem dX0_next_0 : decode cX0_next 0 = .ok (.aload_n 0, 1) := by decide +kernel
theorem dX0_next_1 : decode cX0_next 1 = .ok (.iload_n 1, 1) := by decide +kernel
theorem dX0_next_2 : decode cX0_next 2 = .ok (.invokevirtual 106, 3) := by decide +kernel
theorem dX0_next_5 : decode cX0_next 5 = .ok (.aload_n 0, 1) := by decide +kernel
theorem dX0_next_6 : decode cX0_next 6 = .ok (.iload_n 2, 1) := by decide +kernel
theorem dX0_next_7 : decode cX0_next 7 = .ok (.invokevirtual 71, 3) := by decide +kernel
theorem dX0_next_10 : decode cX0_next 10 = .ok (.aload_n 0, 1) := by decide +kernel
theorem dX0_next_11 : decode cX0_next 11 = .ok (.iload_n 1, 1) := by decide +kernel
theorem dX0_next_12 : decode cX0_next 12 = .ok (.invokevirtual 149, 3) := by decide +kernel
theorem dX0_next_15 : decode cX0_next 15 = .ok (.aload_n 0, 1) := by decide +kernel
theorem dX0_next_16 : decode cX0_next 16 = .ok (.aload_n 0, 1) := by decide +kernel
theorem dX0_next_17 : decode cX0_next 17 = .ok (.getfield 44, 3) := by decide +kernel
theorem dX0_next_20 : decode cX0_next 20 = .ok (.iload_n 1, 1) := by decide +kernel
theorem dX0_next_21 : decode cX0_next 21 = .ok (.aaload, 1) := by decide +kernel
theorem dX0_next_22 : decode cX0_next 22 = .ok (.iload_n 2, 1) := by decide +kernel
theorem dX0_next_23 : decode cX0_next 23 = .ok (.laload, 1) := by decide +kernel
theorem dX0_next_24 : decode cX0_next 24 = .ok (.iload_n 3, 1) := by decide +kernel
theorem dX0_next_25 : decode cX0_next 25 = .ok (.invokevirtual 152, 3) := by decide +kernel
theorem dX0_next_28 : decode cX0_next 28 = .ok (.ireturn, 1) := by decide +kernel
theorem dX0_back_0 : decode cX0_back 0 = .ok (.aload_n 0, 1) := by decide +kernel
theorem dX0_back_1 : decode cX0_back 1 = .ok (.iload_n 1, 1) := by decide +kernel
theorem dX0_back_2 : decode cX0_back 2 = .ok (.invokevirtual 106, 3) := by decide +kernel
theorem dX0_back_5 : decode cX0_back 5 = .ok (.aload_n 0, 1) := by decide +kernel
theorem dX0_back_6 : decode cX0_back 6 = .ok (.iload_n 2, 1) := by decide +kernel
theorem dX0_back_7 : decode cX0_back 7 = .ok (.invokevirtual 71, 3) := by decide +kernel
theorem dX0_back_10 : decode cX0_back 10 = .ok (.aload_n 0, 1) := by decide +kernel
theorem dX0_back_11 : decode cX0_back 11 = .ok (.iload_n 1, 1) := by decide +kernel
theorem dX0_back_12 : decode cX0_back 12 = .ok (.invokevirtual 149, 3) := by decide +kernel
theorem dX0_back_15 : decode cX0_back 15 = .ok (.aload_n 0, 1) := by decide +kernel
theorem dX0_back_16 : decode cX0_back 16 = .ok (.aload_n 0, 1) := by decide +kernel
theorem dX0_back_17 : decode cX0_back 17 = .ok (.iload_n 1, 1) := by decide +kernel
theorem dX0_back_18 : decode cX0_back 18 = .ok (.iload_n 2, 1) := by decide +kernel
theorem dX0_back_19 : decode cX0_back 19 = .ok (.invokevirtual 156, 3) := by decide +kernel
theorem dX0_back_22 : decode cX0_back 22 = .ok (.iload_n 3, 1) := by decide +kernel
theorem dX0_back_23 : decode cX0_back 23 = .ok (.invokevirtual 152, 3) := by decide +kernel
theorem dX0_back_26 : decode cX0_back 26 = .ok (.ireturn, 1) := by decide +kernel
theorem dX0_count_0 : decode cX0_count 0 = .ok (.aload_n 0, 1) := by decide +kernel
theorem dX0_count_1 : decode cX0_count 1 = .ok (.iload_n 1, 1) := by decide +kernel
theorem dX0_count_2 : decode cX0_count 2 = .ok (.invokevirtual 106, 3) := by decide +kernel
theorem dX0_count_5 : decode cX0_count 5 = .ok (.aload_n 0, 1) := by decide +kernel
theorem dX0_count_6 : decode cX0_count 6 = .ok (.iload_n 1, 1) := by decide +kernel
theorem dX0_count_7 : decode cX0_count 7 = .ok (.invokevirtual 149, 3) := by decide +kernel
theorem dX0_count_10 : decode cX0_count 10 = .ok (.aload_n 0, 1) := by decide +kernel
theorem dX0_count_11 : decode cX0_count 11 = .ok (.iload_n 1, 1) := by decide +kernel
theorem dX0_count_12 : decode cX0_count 12 = .ok (.invokevirtual 138, 3) := by decide +kernel
theorem dX0_count_15 : decode cX0_count 15 = .ok (.ireturn, 1) := by decide +kernel
theorem dX0_length_0 : decode cX0_length 0 = .ok (.aload_n 0, 1) := by decide +kernel
theorem dX0_length_1 : decode cX0_length 1 = .ok (.iload_n 1, 1) := by decide +kernel
theorem dX0_length_2 : decode cX0_length 2 = .ok (.invokevirtual 106, 3) := by decide +kernel
theorem dX0_length_5 : decode cX0_length 5 = .ok (.aload_n 0, 1) := by decide +kernel
theorem dX0_length_6 : decode cX0_length 6 = .ok (.iload_n 2, 1) := by decide +kernel
theorem dX0_length_7 : decode cX0_length 7 = .ok (.invokevirtual 71, 3) := by decide +kernel
theorem dX0_length_10 : decode cX0_length 10 = .ok (.aload_n 0, 1) := by decide +kernel
theorem dX0_length_11 : decode cX0_length 11 = .ok (.iload_n 3, 1) := by decide +kernel
theorem dX0_length_12 : decode cX0_length 12 = .ok (.invokevirtual 71, 3) := by decide +kernel
theorem dX0_length_15 : decode cX0_length 15 = .ok (.aload_n 0, 1) := by decide +kernel
theorem dX0_length_16 : decode cX0_length 16 = .ok (.iload_n 1, 1) := by decide +kernel
theorem dX0_length_17 : decode cX0_length 17 = .ok (.invokevirtual 149, 3) := by decide +kernel
theorem dX0_length_20 : decode cX0_length 20 = .ok (.aload_n 0, 1) := by decide +kernel
theorem dX0_length_21 : decode cX0_length 21 = .ok (.iload_n 1, 1) := by decide +kernel
theorem dX0_length_22 : decode cX0_length 22 = .ok (.iload_n 3, 1) := by decide +kernel
theorem dX0_length_23 : decode cX0_length 23 = .ok (.invokevirtual 160, 3) := by decide +kernel
theorem dX0_length_26 : decode cX0_length 26 = .ok (.aload_n 0, 1) := by decide +kernel
theorem dX0_length_27 : decode cX0_length 27 = .ok (.getfield 53, 3) := by decide +kernel
theorem dX0_length_30 : decode cX0_length 30 = .ok (.iload_n 2, 1) := by decide +kernel
theorem dX0_length_31 : decode cX0_length 31 = .ok (.iaload, 1) := by decide +kernel
theorem dX0_length_32 : decode cX0_length 32 = .ok (.ireturn, 1) := by decide +kernel
theorem dX0_route_0 : decode cX0_route 0 = .ok (.aload_n 0, 1) := by decide +kernel
theorem dX0_route_1 : decode cX0_route 1 = .ok (.iload_n 1, 1) := by decide +kernel
theorem dX0_route_2 : decode cX0_route 2 = .ok (.invokevirtual 106, 3) := by decide +kernel
theorem dX0_route_5 : decode cX0_route 5 = .ok (.aload_n 0, 1) := by decide +kernel
theorem dX0_route_6 : decode cX0_route 6 = .ok (.iload_n 2, 1) := by decide +kernel
theorem dX0_route_7 : decode cX0_route 7 = .ok (.invokevirtual 71, 3) := by decide +kernel
theorem dX0_route_10 : decode cX0_route 10 = .ok (.aload_n 0, 1) := by decide +kernel
theorem dX0_route_11 : decode cX0_route 11 = .ok (.iload_n 3, 1) := by decide +kernel
theorem dX0_route_12 : decode cX0_route 12 = .ok (.invokevirtual 71, 3) := by decide +kernel
theorem dX0_route_15 : decode cX0_route 15 = .ok (.aload_n 0, 1) := by decide +kernel
theorem dX0_route_16 : decode cX0_route 16 = .ok (.iload_n 1, 1) := by decide +kernel
theorem dX0_route_17 : decode cX0_route 17 = .ok (.invokevirtual 149, 3) := by decide +kernel
theorem dX0_route_20 : decode cX0_route 20 = .ok (.aload_n 0, 1) := by decide +kernel
theorem dX0_route_21 : decode cX0_route 21 = .ok (.iload_n 1, 1) := by decide +kernel
theorem dX0_route_22 : decode cX0_route 22 = .ok (.iload_n 3, 1) := by decide +kernel
theorem dX0_route_23 : decode cX0_route 23 = .ok (.invokevirtual 160, 3) := by decide +kernel
theorem dX0_route_26 : decode cX0_route 26 = .ok (.iload 4, 2) := by decide +kernel
theorem dX0_route_28 : decode cX0_route 28 = .ok (.ifCond .lt 14, 3) := by decide +kernel
theorem dX0_route_31 : decode cX0_route 31 = .ok (.iload 4, 2) := by decide +kernel
theorem dX0_route_33 : decode cX0_route 33 = .ok (.aload_n 0, 1) := by decide +kernel
theorem dX0_route_34 : decode cX0_route 34 = .ok (.getfield 53, 3) := by decide +kernel
theorem dX0_route_37 : decode cX0_route 37 = .ok (.iload_n 2, 1) := by decide +kernel
theorem dX0_route_38 : decode cX0_route 38 = .ok (.iaload, 1) := by decide +kernel
theorem dX0_route_39 : decode cX0_route 39 = .ok (.if_icmp .le 13, 3) := by decide +kernel
theorem dX0_route_42 : decode cX0_route 42 = .ok (.new 144, 3) := by decide +kernel
theorem dX0_route_45 : decode cX0_route 45 = .ok (.dup, 1) := by decide +kernel
theorem dX0_route_46 : decode cX0_route 46 = .ok (.ldc 164, 2) := by decide +kernel
theorem dX0_route_48 : decode cX0_route 48 = .ok (.invokespecial 148, 3) := by decide +kernel
theorem dX0_route_51 : decode cX0_route 51 = .ok (.athrow, 1) := by decide +kernel
theorem dX0_route_52 : decode cX0_route 52 = .ok (.iload_n 2, 1) := by decide +kernel
theorem dX0_route_53 : decode cX0_route 53 = .ok (.istore 5, 2) := by decide +kernel
theorem dX0_route_55 : decode cX0_route 55 = .ok (.iconst 0, 1) := by decide +kernel
theorem dX0_route_56 : decode cX0_route 56 = .ok (.istore 6, 2) := by decide +kernel
theorem dX0_route_58 : decode cX0_route 58 = .ok (.iload 6, 2) := by decide +kernel
theorem dX0_route_60 : decode cX0_route 60 = .ok (.iload 4, 2) := by decide +kernel
theorem dX0_route_62 : decode cX0_route 62 = .ok (.if_icmp .ge 18, 3) := by decide +kernel
theorem dX0_route_65 : decode cX0_route 65 = .ok (.aload_n 0, 1) := by decide +kernel
theorem dX0_route_66 : decode cX0_route 66 = .ok (.iload_n 1, 1) := by decide +kernel
theorem dX0_route_67 : decode cX0_route 67 = .ok (.iload 5, 2) := by decide +kernel
theorem dX0_route_69 : decode cX0_route 69 = .ok (.invokevirtual 166, 3) := by decide +kernel
theorem dX0_route_72 : decode cX0_route 72 = .ok (.istore 5, 2) := by decide +kernel
theorem dX0_route_74 : decode cX0_route 74 = .ok (.iinc 6 1, 3) := by decide +kernel
theorem dX0_route_77 : decode cX0_route 77 = .ok (.goto (-19), 3) := by decide +kernel
theorem dX0_route_80 : decode cX0_route 80 = .ok (.iload 5, 2) := by decide +kernel
theorem dX0_route_82 : decode cX0_route 82 = .ok (.ireturn, 1) := by decide +kernel
theorem dX0_leader_0 : decode cX0_leader 0 = .ok (.aload_n 0, 1) := by decide +kernel
theorem dX0_leader_1 : decode cX0_leader 1 = .ok (.iload_n 1, 1) := by decide +kernel
theorem dX0_leader_2 : decode cX0_leader 2 = .ok (.invokevirtual 106, 3) := by decide +kernel
theorem dX0_leader_5 : decode cX0_leader 5 = .ok (.aload_n 0, 1) := by decide +kernel
theorem dX0_leader_6 : decode cX0_leader 6 = .ok (.iload_n 2, 1) := by decide +kernel
theorem dX0_leader_7 : decode cX0_leader 7 = .ok (.invokevirtual 71, 3) := by decide +kernel
theorem dX0_leader_10 : decode cX0_leader 10 = .ok (.aload_n 0, 1) := by decide +kernel
theorem dX0_leader_11 : decode cX0_leader 11 = .ok (.getfield 33, 3) := by decide +kernel
theorem dX0_leader_14 : decode cX0_leader 14 = .ok (.iload_n 1, 1) := by decide +kernel
theorem dX0_leader_15 : decode cX0_leader 15 = .ok (.iaload, 1) := by decide +kernel
theorem dX0_leader_16 : decode cX0_leader 16 = .ok (.bipush 6, 2) := by decide +kernel
theorem dX0_leader_18 : decode cX0_leader 18 = .ok (.if_icmp .eq 13, 3) := by decide +kernel
theorem dX0_leader_21 : decode cX0_leader 21 = .ok (.new 82, 3) := by decide +kernel
theorem dX0_leader_24 : decode cX0_leader 24 = .ok (.dup, 1) := by decide +kernel
theorem dX0_leader_25 : decode cX0_leader 25 = .ok (.ldc 169, 2) := by decide +kernel
theorem dX0_leader_27 : decode cX0_leader 27 = .ok (.invokespecial 86, 3) := by decide +kernel
theorem dX0_leader_30 : decode cX0_leader 30 = .ok (.athrow, 1) := by decide +kernel
theorem dX0_leader_31 : decode cX0_leader 31 = .ok (.aload_n 0, 1) := by decide +kernel
theorem dX0_leader_32 : decode cX0_leader 32 = .ok (.iload_n 2, 1) := by decide +kernel
theorem dX0_leader_33 : decode cX0_leader 33 = .ok (.aload_n 0, 1) := by decide +kernel
theorem dX0_leader_34 : decode cX0_leader 34 = .ok (.getfield 36, 3) := by decide +kernel
theorem dX0_leader_37 : decode cX0_leader 37 = .ok (.iload_n 1, 1) := by decide +kernel
theorem dX0_leader_38 : decode cX0_leader 38 = .ok (.iaload, 1) := by decide +kernel
theorem dX0_leader_39 : decode cX0_leader 39 = .ok (.invokevirtual 171, 3) := by decide +kernel
theorem dX0_leader_42 : decode cX0_leader 42 = .ok (.ifCond .ne 13, 3) := by decide +kernel
theorem dX0_leader_45 : decode cX0_leader 45 = .ok (.new 75, 3) := by decide +kernel
theorem dX0_leader_48 : decode cX0_leader 48 = .ok (.dup, 1) := by decide +kernel
theorem dX0_leader_49 : decode cX0_leader 49 = .ok (.ldc 175, 2) := by decide +kernel
theorem dX0_leader_51 : decode cX0_leader 51 = .ok (.invokespecial 79, 3) := by decide +kernel
theorem dX0_leader_54 : decode cX0_leader 54 = .ok (.athrow, 1) := by decide +kernel
theorem dX0_leader_55 : decode cX0_leader 55 = .ok (.aload_n 0, 1) := by decide +kernel
theorem dX0_leader_56 : decode cX0_leader 56 = .ok (.getfield 44, 3) := by decide +kernel
theorem dX0_leader_59 : decode cX0_leader 59 = .ok (.iload_n 1, 1) := by decide +kernel
theorem dX0_leader_60 : decode cX0_leader 60 = .ok (.aaload, 1) := by decide +kernel
theorem dX0_leader_61 : decode cX0_leader 61 = .ok (.iload_n 2, 1) := by decide +kernel
theorem dX0_leader_62 : decode cX0_leader 62 = .ok (.laload, 1) := by decide +kernel
theorem dX0_leader_63 : decode cX0_leader 63 = .ok (.invokestatic 177, 3) := by decide +kernel
theorem dX0_leader_66 : decode cX0_leader 66 = .ok (.ireturn, 1) := by decide +kernel
theorem dX0_differ_0 : decode cX0_differ 0 = .ok (.aload_n 0, 1) := by decide +kernel
theorem dX0_differ_1 : decode cX0_differ 1 = .ok (.iload_n 1, 1) := by decide +kernel
theorem dX0_differ_2 : decode cX0_differ 2 = .ok (.invokevirtual 106, 3) := by decide +kernel
theorem dX0_differ_5 : decode cX0_differ 5 = .ok (.aload_n 0, 1) := by decide +kernel
theorem dX0_differ_6 : decode cX0_differ 6 = .ok (.iload_n 2, 1) := by decide +kernel
theorem dX0_differ_7 : decode cX0_differ 7 = .ok (.invokevirtual 106, 3) := by decide +kernel
theorem dX0_differ_10 : decode cX0_differ 10 = .ok (.aload_n 0, 1) := by decide +kernel
theorem dX0_differ_11 : decode cX0_differ 11 = .ok (.iload_n 1, 1) := by decide +kernel
theorem dX0_differ_12 : decode cX0_differ 12 = .ok (.iload_n 2, 1) := by decide +kernel
theorem dX0_differ_13 : decode cX0_differ 13 = .ok (.invokestatic 15, 3) := by decide +kernel
theorem dX0_differ_16 : decode cX0_differ 16 = .ok (.invokevirtual 149, 3) := by decide +kernel
theorem dX0_differ_19 : decode cX0_differ 19 = .ok (.iconst 0, 1) := by decide +kernel
theorem dX0_differ_20 : decode cX0_differ 20 = .ok (.istore_n 3, 1) := by decide +kernel
theorem dX0_differ_21 : decode cX0_differ 21 = .ok (.iload_n 3, 1) := by decide +kernel
theorem dX0_differ_22 : decode cX0_differ 22 = .ok (.aload_n 0, 1) := by decide +kernel
theorem dX0_differ_23 : decode cX0_differ 23 = .ok (.getfield 18, 3) := by decide +kernel
theorem dX0_differ_26 : decode cX0_differ 26 = .ok (.if_icmp .ge 46, 3) := by decide +kernel
theorem dX0_differ_29 : decode cX0_differ 29 = .ok (.aload_n 0, 1) := by decide +kernel
theorem dX0_differ_30 : decode cX0_differ 30 = .ok (.getfield 44, 3) := by decide +kernel
theorem dX0_differ_33 : decode cX0_differ 33 = .ok (.iload_n 1, 1) := by decide +kernel
theorem dX0_differ_34 : decode cX0_differ 34 = .ok (.aaload, 1) := by decide +kernel
theorem dX0_differ_35 : decode cX0_differ 35 = .ok (.iload_n 3, 1) := by decide +kernel
theorem dX0_differ_36 : decode cX0_differ 36 = .ok (.laload, 1) := by decide +kernel
theorem dX0_differ_37 : decode cX0_differ 37 = .ok (.aload_n 0, 1) := by decide +kernel
theorem dX0_differ_38 : decode cX0_differ 38 = .ok (.getfield 44, 3) := by decide +kernel
theorem dX0_differ_41 : decode cX0_differ 41 = .ok (.iload_n 2, 1) := by decide +kernel
theorem dX0_differ_42 : decode cX0_differ 42 = .ok (.aaload, 1) := by decide +kernel
theorem dX0_differ_43 : decode cX0_differ 43 = .ok (.iload_n 3, 1) := by decide +kernel
theorem dX0_differ_44 : decode cX0_differ 44 = .ok (.laload, 1) := by decide +kernel
theorem dX0_differ_45 : decode cX0_differ 45 = .ok (.lxor, 1) := by decide +kernel
theorem dX0_differ_46 : decode cX0_differ 46 = .ok (.lstore 4, 2) := by decide +kernel
theorem dX0_differ_48 : decode cX0_differ 48 = .ok (.lload 4, 2) := by decide +kernel
theorem dX0_differ_50 : decode cX0_differ 50 = .ok (.lconst 0, 1) := by decide +kernel
theorem dX0_differ_51 : decode cX0_differ 51 = .ok (.lcmp, 1) := by decide +kernel
theorem dX0_differ_52 : decode cX0_differ 52 = .ok (.ifCond .eq 14, 3) := by decide +kernel
theorem dX0_differ_55 : decode cX0_differ 55 = .ok (.iload_n 3, 1) := by decide +kernel
theorem dX0_differ_56 : decode cX0_differ 56 = .ok (.bipush 40, 2) := by decide +kernel
theorem dX0_differ_58 : decode cX0_differ 58 = .ok (.imul, 1) := by decide +kernel
theorem dX0_differ_59 : decode cX0_differ 59 = .ok (.lload 4, 2) := by decide +kernel
theorem dX0_differ_61 : decode cX0_differ 61 = .ok (.invokestatic 177, 3) := by decide +kernel
theorem dX0_differ_64 : decode cX0_differ 64 = .ok (.iadd, 1) := by decide +kernel
theorem dX0_differ_65 : decode cX0_differ 65 = .ok (.ireturn, 1) := by decide +kernel
theorem dX0_differ_66 : decode cX0_differ 66 = .ok (.iinc 3 1, 3) := by decide +kernel
theorem dX0_differ_69 : decode cX0_differ 69 = .ok (.goto (-48), 3) := by decide +kernel
theorem dX0_differ_72 : decode cX0_differ 72 = .ok (.iconst (-1), 1) := by decide +kernel
theorem dX0_differ_73 : decode cX0_differ 73 = .ok (.ireturn, 1) := by decide +kernel
theorem dX0_tally_0 : decode cX0_tally 0 = .ok (.aload_n 0, 1) := by decide +kernel
theorem dX0_tally_1 : decode cX0_tally 1 = .ok (.iload_n 1, 1) := by decide +kernel
theorem dX0_tally_2 : decode cX0_tally 2 = .ok (.invokevirtual 183, 3) := by decide +kernel
theorem dX0_tally_5 : decode cX0_tally 5 = .ok (.ifCond .eq 11, 3) := by decide +kernel
theorem dX0_tally_8 : decode cX0_tally 8 = .ok (.aload_n 0, 1) := by decide +kernel
theorem dX0_tally_9 : decode cX0_tally 9 = .ok (.iload_n 2, 1) := by decide +kernel
theorem dX0_tally_10 : decode cX0_tally 10 = .ok (.invokevirtual 183, 3) := by decide +kernel
theorem dX0_tally_13 : decode cX0_tally 13 = .ok (.ifCond .ne 13, 3) := by decide +kernel
theorem dX0_tally_16 : decode cX0_tally 16 = .ok (.new 186, 3) := by decide +kernel
theorem dX0_tally_19 : decode cX0_tally 19 = .ok (.dup, 1) := by decide +kernel
theorem dX0_tally_20 : decode cX0_tally 20 = .ok (.ldc 188, 2) := by decide +kernel
theorem dX0_tally_22 : decode cX0_tally 22 = .ok (.invokespecial 190, 3) := by decide +kernel
theorem dX0_tally_25 : decode cX0_tally 25 = .ok (.athrow, 1) := by decide +kernel
theorem dX0_tally_26 : decode cX0_tally 26 = .ok (.aload_n 0, 1) := by decide +kernel
theorem dX0_tally_27 : decode cX0_tally 27 = .ok (.getfield 30, 3) := by decide +kernel
theorem dX0_tally_30 : decode cX0_tally 30 = .ok (.iload_n 1, 1) := by decide +kernel
theorem dX0_tally_31 : decode cX0_tally 31 = .ok (.aload_n 0, 1) := by decide +kernel
theorem dX0_tally_32 : decode cX0_tally 32 = .ok (.getfield 18, 3) := by decide +kernel
theorem dX0_tally_35 : decode cX0_tally 35 = .ok (.imul, 1) := by decide +kernel
theorem dX0_tally_36 : decode cX0_tally 36 = .ok (.iload_n 2, 1) := by decide +kernel
theorem dX0_tally_37 : decode cX0_tally 37 = .ok (.iadd, 1) := by decide +kernel
theorem dX0_tally_38 : decode cX0_tally 38 = .ok (.iaload, 1) := by decide +kernel
theorem dX0_tally_39 : decode cX0_tally 39 = .ok (.ireturn, 1) := by decide +kernel
theorem dX0_of_0 : decode cX0_of 0 = .ok (.iload_n 1, 1) := by decide +kernel
theorem dX0_of_1 : decode cX0_of 1 = .ok (.tableswitch 42 0 2 #[27, 32, 37], 27) := by decide +kernel
theorem dX0_of_28 : decode cX0_of 28 = .ok (.aload_n 0, 1) := by decide +kernel
theorem dX0_of_29 : decode cX0_of 29 = .ok (.getfield 18, 3) := by decide +kernel
theorem dX0_of_32 : decode cX0_of 32 = .ok (.ireturn, 1) := by decide +kernel
theorem dX0_of_33 : decode cX0_of 33 = .ok (.aload_n 0, 1) := by decide +kernel
theorem dX0_of_34 : decode cX0_of 34 = .ok (.getfield 56, 3) := by decide +kernel
theorem dX0_of_37 : decode cX0_of 37 = .ok (.ireturn, 1) := by decide +kernel
theorem dX0_of_38 : decode cX0_of 38 = .ok (.aload_n 0, 1) := by decide +kernel
theorem dX0_of_39 : decode cX0_of 39 = .ok (.getfield 62, 3) := by decide +kernel
theorem dX0_of_42 : decode cX0_of 42 = .ok (.ireturn, 1) := by decide +kernel
theorem dX0_of_43 : decode cX0_of 43 = .ok (.new 75, 3) := by decide +kernel
theorem dX0_of_46 : decode cX0_of 46 = .ok (.dup, 1) := by decide +kernel
theorem dX0_of_47 : decode cX0_of 47 = .ok (.ldc 191, 2) := by decide +kernel
theorem dX0_of_49 : decode cX0_of 49 = .ok (.invokespecial 79, 3) := by decide +kernel
theorem dX0_of_52 : decode cX0_of 52 = .ok (.athrow, 1) := by decide +kernel
theorem dX0_told_0 : decode cX0_told 0 = .ok (.aload_n 0, 1) := by decide +kernel
theorem dX0_told_1 : decode cX0_told 1 = .ok (.iload_n 1, 1) := by decide +kernel
theorem dX0_told_2 : decode cX0_told 2 = .ok (.invokevirtual 106, 3) := by decide +kernel
theorem dX0_told_5 : decode cX0_told 5 = .ok (.iload_n 2, 1) := by decide +kernel
theorem dX0_told_6 : decode cX0_told 6 = .ok (.tableswitch 47 0 2 #[26, 33, 40], 26) := by decide +kernel
theorem dX0_told_32 : decode cX0_told 32 = .ok (.aload_n 0, 1) := by decide +kernel
theorem dX0_told_33 : decode cX0_told 33 = .ok (.getfield 33, 3) := by decide +kernel
theorem dX0_told_36 : decode cX0_told 36 = .ok (.iload_n 1, 1) := by decide +kernel
theorem dX0_told_37 : decode cX0_told 37 = .ok (.iaload, 1) := by decide +kernel
theorem dX0_told_38 : decode cX0_told 38 = .ok (.ireturn, 1) := by decide +kernel
theorem dX0_told_39 : decode cX0_told 39 = .ok (.aload_n 0, 1) := by decide +kernel
theorem dX0_told_40 : decode cX0_told 40 = .ok (.getfield 36, 3) := by decide +kernel
theorem dX0_told_43 : decode cX0_told 43 = .ok (.iload_n 1, 1) := by decide +kernel
theorem dX0_told_44 : decode cX0_told 44 = .ok (.iaload, 1) := by decide +kernel
theorem dX0_told_45 : decode cX0_told 45 = .ok (.ireturn, 1) := by decide +kernel
theorem dX0_told_46 : decode cX0_told 46 = .ok (.aload_n 0, 1) := by decide +kernel
theorem dX0_told_47 : decode cX0_told 47 = .ok (.getfield 39, 3) := by decide +kernel
theorem dX0_told_50 : decode cX0_told 50 = .ok (.iload_n 1, 1) := by decide +kernel
theorem dX0_told_51 : decode cX0_told 51 = .ok (.iaload, 1) := by decide +kernel
theorem dX0_told_52 : decode cX0_told 52 = .ok (.ireturn, 1) := by decide +kernel
theorem dX0_told_53 : decode cX0_told 53 = .ok (.new 75, 3) := by decide +kernel
theorem dX0_told_56 : decode cX0_told 56 = .ok (.dup, 1) := by decide +kernel
theorem dX0_told_57 : decode cX0_told 57 = .ok (.ldc 191, 2) := by decide +kernel
theorem dX0_told_59 : decode cX0_told 59 = .ok (.invokespecial 79, 3) := by decide +kernel
theorem dX0_told_62 : decode cX0_told 62 = .ok (.athrow, 1) := by decide +kernel
theorem dX0_isThing_0 : decode cX0_isThing 0 = .ok (.iload_n 1, 1) := by decide +kernel
theorem dX0_isThing_1 : decode cX0_isThing 1 = .ok (.ifCond .lt 15, 3) := by decide +kernel
theorem dX0_isThing_4 : decode cX0_isThing 4 = .ok (.iload_n 1, 1) := by decide +kernel
theorem dX0_isThing_5 : decode cX0_isThing 5 = .ok (.aload_n 0, 1) := by decide +kernel
theorem dX0_isThing_6 : decode cX0_isThing 6 = .ok (.getfield 18, 3) := by decide +kernel
theorem dX0_isThing_9 : decode cX0_isThing 9 = .ok (.if_icmp .ge 7, 3) := by decide +kernel
theorem dX0_isThing_12 : decode cX0_isThing 12 = .ok (.iconst 1, 1) := by decide +kernel
theorem dX0_isThing_13 : decode cX0_isThing 13 = .ok (.goto 4, 3) := by decide +kernel
theorem dX0_isThing_16 : decode cX0_isThing 16 = .ok (.iconst 0, 1) := by decide +kernel
theorem dX0_isThing_17 : decode cX0_isThing 17 = .ok (.ireturn, 1) := by decide +kernel
theorem dX0_needThing_0 : decode cX0_needThing 0 = .ok (.aload_n 0, 1) := by decide +kernel
theorem dX0_needThing_1 : decode cX0_needThing 1 = .ok (.iload_n 1, 1) := by decide +kernel
theorem dX0_needThing_2 : decode cX0_needThing 2 = .ok (.invokevirtual 183, 3) := by decide +kernel
theorem dX0_needThing_5 : decode cX0_needThing 5 = .ok (.ifCond .ne 13, 3) := by decide +kernel
theorem dX0_needThing_8 : decode cX0_needThing 8 = .ok (.new 75, 3) := by decide +kernel
theorem dX0_needThing_11 : decode cX0_needThing 11 = .ok (.dup, 1) := by decide +kernel
theorem dX0_needThing_12 : decode cX0_needThing 12 = .ok (.ldc 188, 2) := by decide +kernel
theorem dX0_needThing_14 : decode cX0_needThing 14 = .ok (.invokespecial 79, 3) := by decide +kernel
theorem dX0_needThing_17 : decode cX0_needThing 17 = .ok (.athrow, 1) := by decide +kernel
theorem dX0_needThing_18 : decode cX0_needThing 18 = .ok (.return_, 1) := by decide +kernel
theorem dX0_needRelation_0 : decode cX0_needRelation 0 = .ok (.iload_n 1, 1) := by decide +kernel
theorem dX0_needRelation_1 : decode cX0_needRelation 1 = .ok (.ifCond .lt 11, 3) := by decide +kernel
theorem dX0_needRelation_4 : decode cX0_needRelation 4 = .ok (.iload_n 1, 1) := by decide +kernel
theorem dX0_needRelation_5 : decode cX0_needRelation 5 = .ok (.aload_n 0, 1) := by decide +kernel
theorem dX0_needRelation_6 : decode cX0_needRelation 6 = .ok (.getfield 56, 3) := by decide +kernel
theorem dX0_needRelation_9 : decode cX0_needRelation 9 = .ok (.if_icmp .lt 13, 3) := by decide +kernel
theorem dX0_needRelation_12 : decode cX0_needRelation 12 = .ok (.new 75, 3) := by decide +kernel
theorem dX0_needRelation_15 : decode cX0_needRelation 15 = .ok (.dup, 1) := by decide +kernel
theorem dX0_needRelation_16 : decode cX0_needRelation 16 = .ok (.ldc 193, 2) := by decide +kernel
theorem dX0_needRelation_18 : decode cX0_needRelation 18 = .ok (.invokespecial 79, 3) := by decide +kernel
theorem dX0_needRelation_21 : decode cX0_needRelation 21 = .ok (.athrow, 1) := by decide +kernel
theorem dX0_needRelation_22 : decode cX0_needRelation 22 = .ok (.return_, 1) := by decide +kernel
theorem dX0_needKindOrNone_0 : decode cX0_needKindOrNone 0 = .ok (.iload_n 1, 1) := by decide +kernel
theorem dX0_needKindOrNone_1 : decode cX0_needKindOrNone 1 = .ok (.iconst (-1), 1) := by decide +kernel
theorem dX0_needKindOrNone_2 : decode cX0_needKindOrNone 2 = .ok (.if_icmp .eq 22, 3) := by decide +kernel
theorem dX0_needKindOrNone_5 : decode cX0_needKindOrNone 5 = .ok (.iload_n 1, 1) := by decide +kernel
theorem dX0_needKindOrNone_6 : decode cX0_needKindOrNone 6 = .ok (.ifCond .lt 8, 3) := by decide +kernel
theorem dX0_needKindOrNone_9 : decode cX0_needKindOrNone 9 = .ok (.iload_n 1, 1) := by decide +kernel
theorem dX0_needKindOrNone_10 : decode cX0_needKindOrNone 10 = .ok (.iconst 3, 1) := by decide +kernel
theorem dX0_needKindOrNone_11 : decode cX0_needKindOrNone 11 = .ok (.if_icmp .le 13, 3) := by decide +kernel
theorem dX0_needKindOrNone_14 : decode cX0_needKindOrNone 14 = .ok (.new 75, 3) := by decide +kernel
theorem dX0_needKindOrNone_17 : decode cX0_needKindOrNone 17 = .ok (.dup, 1) := by decide +kernel
theorem dX0_needKindOrNone_18 : decode cX0_needKindOrNone 18 = .ok (.ldc 77, 2) := by decide +kernel
theorem dX0_needKindOrNone_20 : decode cX0_needKindOrNone 20 = .ok (.invokespecial 79, 3) := by decide +kernel
theorem dX0_needKindOrNone_23 : decode cX0_needKindOrNone 23 = .ok (.athrow, 1) := by decide +kernel
theorem dX0_needKindOrNone_24 : decode cX0_needKindOrNone 24 = .ok (.return_, 1) := by decide +kernel
theorem dX0_needRoomForRelation_0 : decode cX0_needRoomForRelation 0 = .ok (.aload_n 0, 1) := by decide +kernel
theorem dX0_needRoomForRelation_1 : decode cX0_needRoomForRelation 1 = .ok (.getfield 56, 3) := by decide +kernel
theorem dX0_needRoomForRelation_4 : decode cX0_needRoomForRelation 4 = .ok (.bipush 12, 2) := by decide +kernel
theorem dX0_needRoomForRelation_6 : decode cX0_needRoomForRelation 6 = .ok (.if_icmp .lt 13, 3) := by decide +kernel
theorem dX0_needRoomForRelation_9 : decode cX0_needRoomForRelation 9 = .ok (.new 82, 3) := by decide +kernel
theorem dX0_needRoomForRelation_12 : decode cX0_needRoomForRelation 12 = .ok (.dup, 1) := by decide +kernel
theorem dX0_needRoomForRelation_13 : decode cX0_needRoomForRelation 13 = .ok (.ldc 195, 2) := by decide +kernel
theorem dX0_needRoomForRelation_15 : decode cX0_needRoomForRelation 15 = .ok (.invokespecial 86, 3) := by decide +kernel
theorem dX0_needRoomForRelation_18 : decode cX0_needRoomForRelation 18 = .ok (.athrow, 1) := by decide +kernel
theorem dX0_needRoomForRelation_19 : decode cX0_needRoomForRelation 19 = .ok (.return_, 1) := by decide +kernel
theorem dX0_needForm_0 : decode cX0_needForm 0 = .ok (.aload_n 0, 1) := by decide +kernel
theorem dX0_needForm_1 : decode cX0_needForm 1 = .ok (.iload_n 1, 1) := by decide +kernel
theorem dX0_needForm_2 : decode cX0_needForm 2 = .ok (.invokevirtual 197, 3) := by decide +kernel
theorem dX0_needForm_5 : decode cX0_needForm 5 = .ok (.ifCond .eq 13, 3) := by decide +kernel
theorem dX0_needForm_8 : decode cX0_needForm 8 = .ok (.new 82, 3) := by decide +kernel
theorem dX0_needForm_11 : decode cX0_needForm 11 = .ok (.dup, 1) := by decide +kernel
theorem dX0_needForm_12 : decode cX0_needForm 12 = .ok (.ldc 200, 2) := by decide +kernel
theorem dX0_needForm_14 : decode cX0_needForm 14 = .ok (.invokespecial 86, 3) := by decide +kernel
theorem dX0_needForm_17 : decode cX0_needForm 17 = .ok (.athrow, 1) := by decide +kernel
theorem dX0_needForm_18 : decode cX0_needForm 18 = .ok (.return_, 1) := by decide +kernel
theorem dX0_needSettable_0 : decode cX0_needSettable 0 = .ok (.aload_n 0, 1) := by decide +kernel
theorem dX0_needSettable_1 : decode cX0_needSettable 1 = .ok (.iload_n 1, 1) := by decide +kernel
theorem dX0_needSettable_2 : decode cX0_needSettable 2 = .ok (.invokevirtual 106, 3) := by decide +kernel
theorem dX0_needSettable_5 : decode cX0_needSettable 5 = .ok (.aload_n 0, 1) := by decide +kernel
theorem dX0_needSettable_6 : decode cX0_needSettable 6 = .ok (.iload_n 2, 1) := by decide +kernel
theorem dX0_needSettable_7 : decode cX0_needSettable 7 = .ok (.invokevirtual 71, 3) := by decide +kernel
theorem dX0_needSettable_10 : decode cX0_needSettable 10 = .ok (.aload_n 0, 1) := by decide +kernel
theorem dX0_needSettable_11 : decode cX0_needSettable 11 = .ok (.iload_n 3, 1) := by decide +kernel
theorem dX0_needSettable_12 : decode cX0_needSettable 12 = .ok (.invokevirtual 71, 3) := by decide +kernel
theorem dX0_needSettable_15 : decode cX0_needSettable 15 = .ok (.aload_n 0, 1) := by decide +kernel
theorem dX0_needSettable_16 : decode cX0_needSettable 16 = .ok (.iload_n 1, 1) := by decide +kernel
theorem dX0_needSettable_17 : decode cX0_needSettable 17 = .ok (.invokevirtual 135, 3) := by decide +kernel
theorem dX0_needSettable_20 : decode cX0_needSettable 20 = .ok (.aload_n 0, 1) := by decide +kernel
theorem dX0_needSettable_21 : decode cX0_needSettable 21 = .ok (.iload_n 2, 1) := by decide +kernel
theorem dX0_needSettable_22 : decode cX0_needSettable 22 = .ok (.aload_n 0, 1) := by decide +kernel
theorem dX0_needSettable_23 : decode cX0_needSettable 23 = .ok (.getfield 36, 3) := by decide +kernel
theorem dX0_needSettable_26 : decode cX0_needSettable 26 = .ok (.iload_n 1, 1) := by decide +kernel
theorem dX0_needSettable_27 : decode cX0_needSettable 27 = .ok (.iaload, 1) := by decide +kernel
theorem dX0_needSettable_28 : decode cX0_needSettable 28 = .ok (.invokevirtual 171, 3) := by decide +kernel
theorem dX0_needSettable_31 : decode cX0_needSettable 31 = .ok (.ifCond .eq 17, 3) := by decide +kernel
theorem dX0_needSettable_34 : decode cX0_needSettable 34 = .ok (.aload_n 0, 1) := by decide +kernel
theorem dX0_needSettable_35 : decode cX0_needSettable 35 = .ok (.iload_n 3, 1) := by decide +kernel
theorem dX0_needSettable_36 : decode cX0_needSettable 36 = .ok (.aload_n 0, 1) := by decide +kernel
theorem dX0_needSettable_37 : decode cX0_needSettable 37 = .ok (.getfield 39, 3) := by decide +kernel
theorem dX0_needSettable_40 : decode cX0_needSettable 40 = .ok (.iload_n 1, 1) := by decide +kernel
theorem dX0_needSettable_41 : decode cX0_needSettable 41 = .ok (.iaload, 1) := by decide +kernel
theorem dX0_needSettable_42 : decode cX0_needSettable 42 = .ok (.invokevirtual 171, 3) := by decide +kernel
theorem dX0_needSettable_45 : decode cX0_needSettable 45 = .ok (.ifCond .ne 13, 3) := by decide +kernel
theorem dX0_needSettable_48 : decode cX0_needSettable 48 = .ok (.new 75, 3) := by decide +kernel
theorem dX0_needSettable_51 : decode cX0_needSettable 51 = .ok (.dup, 1) := by decide +kernel
theorem dX0_needSettable_52 : decode cX0_needSettable 52 = .ok (.ldc 202, 2) := by decide +kernel
theorem dX0_needSettable_54 : decode cX0_needSettable 54 = .ok (.invokespecial 79, 3) := by decide +kernel
theorem dX0_needSettable_57 : decode cX0_needSettable 57 = .ok (.athrow, 1) := by decide +kernel
theorem dX0_needSettable_58 : decode cX0_needSettable 58 = .ok (.aload_n 0, 1) := by decide +kernel
theorem dX0_needSettable_59 : decode cX0_needSettable 59 = .ok (.getfield 33, 3) := by decide +kernel
theorem dX0_needSettable_62 : decode cX0_needSettable 62 = .ok (.iload_n 1, 1) := by decide +kernel
theorem dX0_needSettable_63 : decode cX0_needSettable 63 = .ok (.iaload, 1) := by decide +kernel
theorem dX0_needSettable_64 : decode cX0_needSettable 64 = .ok (.iconst 4, 1) := by decide +kernel
theorem dX0_needSettable_65 : decode cX0_needSettable 65 = .ok (.if_icmp .ne 18, 3) := by decide +kernel
theorem dX0_needSettable_68 : decode cX0_needSettable 68 = .ok (.iload_n 2, 1) := by decide +kernel
theorem dX0_needSettable_69 : decode cX0_needSettable 69 = .ok (.iload_n 3, 1) := by decide +kernel
theorem dX0_needSettable_70 : decode cX0_needSettable 70 = .ok (.if_icmp .ne 13, 3) := by decide +kernel
theorem dX0_needSettable_73 : decode cX0_needSettable 73 = .ok (.new 75, 3) := by decide +kernel
theorem dX0_needSettable_76 : decode cX0_needSettable 76 = .ok (.dup, 1) := by decide +kernel
theorem dX0_needSettable_77 : decode cX0_needSettable 77 = .ok (.ldc 204, 2) := by decide +kernel
theorem dX0_needSettable_79 : decode cX0_needSettable 79 = .ok (.invokespecial 79, 3) := by decide +kernel
theorem dX0_needSettable_82 : decode cX0_needSettable 82 = .ok (.athrow, 1) := by decide +kernel
theorem dX0_needSettable_83 : decode cX0_needSettable 83 = .ok (.return_, 1) := by decide +kernel
theorem dX0_isOfKind_0 : decode cX0_isOfKind 0 = .ok (.iload_n 2, 1) := by decide +kernel
theorem dX0_isOfKind_1 : decode cX0_isOfKind 1 = .ok (.iconst (-1), 1) := by decide +kernel
theorem dX0_isOfKind_2 : decode cX0_isOfKind 2 = .ok (.if_icmp .eq 13, 3) := by decide +kernel
theorem dX0_isOfKind_5 : decode cX0_isOfKind 5 = .ok (.aload_n 0, 1) := by decide +kernel
theorem dX0_isOfKind_6 : decode cX0_isOfKind 6 = .ok (.getfield 26, 3) := by decide +kernel
theorem dX0_isOfKind_9 : decode cX0_isOfKind 9 = .ok (.iload_n 1, 1) := by decide +kernel
theorem dX0_isOfKind_10 : decode cX0_isOfKind 10 = .ok (.iaload, 1) := by decide +kernel
theorem dX0_isOfKind_11 : decode cX0_isOfKind 11 = .ok (.iload_n 2, 1) := by decide +kernel
theorem dX0_isOfKind_12 : decode cX0_isOfKind 12 = .ok (.if_icmp .ne 7, 3) := by decide +kernel
theorem dX0_isOfKind_15 : decode cX0_isOfKind 15 = .ok (.iconst 1, 1) := by decide +kernel
theorem dX0_isOfKind_16 : decode cX0_isOfKind 16 = .ok (.goto 4, 3) := by decide +kernel
theorem dX0_isOfKind_19 : decode cX0_isOfKind 19 = .ok (.iconst 0, 1) := by decide +kernel
theorem dX0_isOfKind_20 : decode cX0_isOfKind 20 = .ok (.ireturn, 1) := by decide +kernel
theorem dX0_isByCondition_0 : decode cX0_isByCondition 0 = .ok (.aload_n 0, 1) := by decide +kernel
theorem dX0_isByCondition_1 : decode cX0_isByCondition 1 = .ok (.getfield 33, 3) := by decide +kernel
theorem dX0_isByCondition_4 : decode cX0_isByCondition 4 = .ok (.iload_n 1, 1) := by decide +kernel
theorem dX0_isByCondition_5 : decode cX0_isByCondition 5 = .ok (.iaload, 1) := by decide +kernel
theorem dX0_isByCondition_6 : decode cX0_isByCondition 6 = .ok (.bipush 10, 2) := by decide +kernel
theorem dX0_isByCondition_8 : decode cX0_isByCondition 8 = .ok (.if_icmp .lt 7, 3) := by decide +kernel
theorem dX0_isByCondition_11 : decode cX0_isByCondition 11 = .ok (.iconst 1, 1) := by decide +kernel
theorem dX0_isByCondition_12 : decode cX0_isByCondition 12 = .ok (.goto 4, 3) := by decide +kernel
theorem dX0_isByCondition_15 : decode cX0_isByCondition 15 = .ok (.iconst 0, 1) := by decide +kernel
theorem dX0_isByCondition_16 : decode cX0_isByCondition 16 = .ok (.ireturn, 1) := by decide +kernel
theorem dX0_takesTwo_0 : decode cX0_takesTwo 0 = .ok (.iload_n 0, 1) := by decide +kernel
theorem dX0_takesTwo_1 : decode cX0_takesTwo 1 = .ok (.iconst 2, 1) := by decide +kernel
theorem dX0_takesTwo_2 : decode cX0_takesTwo 2 = .ok (.if_icmp .eq 13, 3) := by decide +kernel
theorem dX0_takesTwo_5 : decode cX0_takesTwo 5 = .ok (.iload_n 0, 1) := by decide +kernel
theorem dX0_takesTwo_6 : decode cX0_takesTwo 6 = .ok (.iconst 3, 1) := by decide +kernel
theorem dX0_takesTwo_7 : decode cX0_takesTwo 7 = .ok (.if_icmp .eq 8, 3) := by decide +kernel
theorem dX0_takesTwo_10 : decode cX0_takesTwo 10 = .ok (.iload_n 0, 1) := by decide +kernel
theorem dX0_takesTwo_11 : decode cX0_takesTwo 11 = .ok (.iconst 4, 1) := by decide +kernel
theorem dX0_takesTwo_12 : decode cX0_takesTwo 12 = .ok (.if_icmp .ne 7, 3) := by decide +kernel
theorem dX0_takesTwo_15 : decode cX0_takesTwo 15 = .ok (.iconst 1, 1) := by decide +kernel
theorem dX0_takesTwo_16 : decode cX0_takesTwo 16 = .ok (.goto 4, 3) := by decide +kernel
theorem dX0_takesTwo_19 : decode cX0_takesTwo 19 = .ok (.iconst 0, 1) := by decide +kernel
theorem dX0_takesTwo_20 : decode cX0_takesTwo 20 = .ok (.ireturn, 1) := by decide +kernel
theorem dX0_addRelation_0 : decode cX0_addRelation 0 = .ok (.aload_n 0, 1) := by decide +kernel
theorem dX0_addRelation_1 : decode cX0_addRelation 1 = .ok (.getfield 56, 3) := by decide +kernel
theorem dX0_addRelation_4 : decode cX0_addRelation 4 = .ok (.istore 4, 2) := by decide +kernel
theorem dX0_addRelation_6 : decode cX0_addRelation 6 = .ok (.aload_n 0, 1) := by decide +kernel
theorem dX0_addRelation_7 : decode cX0_addRelation 7 = .ok (.getfield 33, 3) := by decide +kernel
theorem dX0_addRelation_10 : decode cX0_addRelation 10 = .ok (.iload 4, 2) := by decide +kernel
theorem dX0_addRelation_12 : decode cX0_addRelation 12 = .ok (.iload_n 1, 1) := by decide +kernel
theorem dX0_addRelation_13 : decode cX0_addRelation 13 = .ok (.iastore, 1) := by decide +kernel
theorem dX0_addRelation_14 : decode cX0_addRelation 14 = .ok (.aload_n 0, 1) := by decide +kernel
theorem dX0_addRelation_15 : decode cX0_addRelation 15 = .ok (.getfield 36, 3) := by decide +kernel
theorem dX0_addRelation_18 : decode cX0_addRelation 18 = .ok (.iload 4, 2) := by decide +kernel
theorem dX0_addRelation_20 : decode cX0_addRelation 20 = .ok (.iload_n 2, 1) := by decide +kernel
theorem dX0_addRelation_21 : decode cX0_addRelation 21 = .ok (.iastore, 1) := by decide +kernel
theorem dX0_addRelation_22 : decode cX0_addRelation 22 = .ok (.aload_n 0, 1) := by decide +kernel
theorem dX0_addRelation_23 : decode cX0_addRelation 23 = .ok (.getfield 39, 3) := by decide +kernel
theorem dX0_addRelation_26 : decode cX0_addRelation 26 = .ok (.iload 4, 2) := by decide +kernel
theorem dX0_addRelation_28 : decode cX0_addRelation 28 = .ok (.iload_n 3, 1) := by decide +kernel
theorem dX0_addRelation_29 : decode cX0_addRelation 29 = .ok (.iastore, 1) := by decide +kernel
theorem dX0_addRelation_30 : decode cX0_addRelation 30 = .ok (.aload_n 0, 1) := by decide +kernel
theorem dX0_addRelation_31 : decode cX0_addRelation 31 = .ok (.dup, 1) := by decide +kernel
theorem dX0_addRelation_32 : decode cX0_addRelation 32 = .ok (.getfield 56, 3) := by decide +kernel
theorem dX0_addRelation_35 : decode cX0_addRelation 35 = .ok (.iconst 1, 1) := by decide +kernel
theorem dX0_addRelation_36 : decode cX0_addRelation 36 = .ok (.iadd, 1) := by decide +kernel
theorem dX0_addRelation_37 : decode cX0_addRelation 37 = .ok (.putfield 56, 3) := by decide +kernel
theorem dX0_addRelation_40 : decode cX0_addRelation 40 = .ok (.iload 4, 2) := by decide +kernel
theorem dX0_addRelation_42 : decode cX0_addRelation 42 = .ok (.ireturn, 1) := by decide +kernel
theorem dX0_startRows_0 : decode cX0_startRows 0 = .ok (.aload_n 0, 1) := by decide +kernel
theorem dX0_startRows_1 : decode cX0_startRows 1 = .ok (.getfield 33, 3) := by decide +kernel
theorem dX0_startRows_4 : decode cX0_startRows 4 = .ok (.iload_n 1, 1) := by decide +kernel
theorem dX0_startRows_5 : decode cX0_startRows 5 = .ok (.iaload, 1) := by decide +kernel
theorem dX0_startRows_6 : decode cX0_startRows 6 = .ok (.bipush 6, 2) := by decide +kernel
theorem dX0_startRows_8 : decode cX0_startRows 8 = .ok (.if_icmp .ne 7, 3) := by decide +kernel
theorem dX0_startRows_11 : decode cX0_startRows 11 = .ok (.iconst 1, 1) := by decide +kernel
theorem dX0_startRows_12 : decode cX0_startRows 12 = .ok (.goto 4, 3) := by decide +kernel
theorem dX0_startRows_15 : decode cX0_startRows 15 = .ok (.iconst 0, 1) := by decide +kernel
theorem dX0_startRows_16 : decode cX0_startRows 16 = .ok (.istore_n 2, 1) := by decide +kernel
theorem dX0_startRows_17 : decode cX0_startRows 17 = .ok (.iconst 0, 1) := by decide +kernel
theorem dX0_startRows_18 : decode cX0_startRows 18 = .ok (.istore_n 3, 1) := by decide +kernel
theorem dX0_startRows_19 : decode cX0_startRows 19 = .ok (.iload_n 3, 1) := by decide +kernel
theorem dX0_startRows_20 : decode cX0_startRows 20 = .ok (.aload_n 0, 1) := by decide +kernel
theorem dX0_startRows_21 : decode cX0_startRows 21 = .ok (.getfield 18, 3) := by decide +kernel
theorem dX0_startRows_24 : decode cX0_startRows 24 = .ok (.if_icmp .ge 43, 3) := by decide +kernel
theorem dX0_startRows_27 : decode cX0_startRows 27 = .ok (.aload_n 0, 1) := by decide +kernel
theorem dX0_startRows_28 : decode cX0_startRows 28 = .ok (.getfield 44, 3) := by decide +kernel
theorem dX0_startRows_31 : decode cX0_startRows 31 = .ok (.iload_n 1, 1) := by decide +kernel
theorem dX0_startRows_32 : decode cX0_startRows 32 = .ok (.aaload, 1) := by decide +kernel
theorem dX0_startRows_33 : decode cX0_startRows 33 = .ok (.iload_n 3, 1) := by decide +kernel
theorem dX0_startRows_34 : decode cX0_startRows 34 = .ok (.iload_n 2, 1) := by decide +kernel
theorem dX0_startRows_35 : decode cX0_startRows 35 = .ok (.ifCond .eq 24, 3) := by decide +kernel
theorem dX0_startRows_38 : decode cX0_startRows 38 = .ok (.aload_n 0, 1) := by decide +kernel
theorem dX0_startRows_39 : decode cX0_startRows 39 = .ok (.iload_n 3, 1) := by decide +kernel
theorem dX0_startRows_40 : decode cX0_startRows 40 = .ok (.aload_n 0, 1) := by decide +kernel
theorem dX0_startRows_41 : decode cX0_startRows 41 = .ok (.getfield 36, 3) := by decide +kernel
theorem dX0_startRows_44 : decode cX0_startRows 44 = .ok (.iload_n 1, 1) := by decide +kernel
theorem dX0_startRows_45 : decode cX0_startRows 45 = .ok (.iaload, 1) := by decide +kernel
theorem dX0_startRows_46 : decode cX0_startRows 46 = .ok (.invokevirtual 171, 3) := by decide +kernel
theorem dX0_startRows_49 : decode cX0_startRows 49 = .ok (.ifCond .eq 10, 3) := by decide +kernel
theorem dX0_startRows_52 : decode cX0_startRows 52 = .ok (.iload_n 3, 1) := by decide +kernel
theorem dX0_startRows_53 : decode cX0_startRows 53 = .ok (.invokestatic 206, 3) := by decide +kernel
theorem dX0_startRows_56 : decode cX0_startRows 56 = .ok (.goto 4, 3) := by decide +kernel
theorem dX0_startRows_59 : decode cX0_startRows 59 = .ok (.lconst 0, 1) := by decide +kernel
theorem dX0_startRows_60 : decode cX0_startRows 60 = .ok (.lastore, 1) := by decide +kernel
theorem dX0_startRows_61 : decode cX0_startRows 61 = .ok (.iinc 3 1, 3) := by decide +kernel
theorem dX0_startRows_64 : decode cX0_startRows 64 = .ok (.goto (-45), 3) := by decide +kernel
theorem dX0_startRows_67 : decode cX0_startRows 67 = .ok (.return_, 1) := by decide +kernel
theorem dX0_bit_0 : decode cX0_bit 0 = .ok (.lconst 1, 1) := by decide +kernel
theorem dX0_bit_1 : decode cX0_bit 1 = .ok (.iload_n 0, 1) := by decide +kernel
theorem dX0_bit_2 : decode cX0_bit 2 = .ok (.lshl, 1) := by decide +kernel
theorem dX0_bit_3 : decode cX0_bit 3 = .ok (.lreturn, 1) := by decide +kernel
theorem dX0_holds_0 : decode cX0_holds 0 = .ok (.aload_n 0, 1) := by decide +kernel
theorem dX0_holds_1 : decode cX0_holds 1 = .ok (.getfield 44, 3) := by decide +kernel
theorem dX0_holds_4 : decode cX0_holds 4 = .ok (.iload_n 1, 1) := by decide +kernel
theorem dX0_holds_5 : decode cX0_holds 5 = .ok (.aaload, 1) := by decide +kernel
theorem dX0_holds_6 : decode cX0_holds 6 = .ok (.iload_n 2, 1) := by decide +kernel
theorem dX0_holds_7 : decode cX0_holds 7 = .ok (.laload, 1) := by decide +kernel
theorem dX0_holds_8 : decode cX0_holds 8 = .ok (.iload_n 3, 1) := by decide +kernel
theorem dX0_holds_9 : decode cX0_holds 9 = .ok (.invokestatic 206, 3) := by decide +kernel
theorem dX0_holds_12 : decode cX0_holds 12 = .ok (.land, 1) := by decide +kernel
theorem dX0_holds_13 : decode cX0_holds 13 = .ok (.lconst 0, 1) := by decide +kernel
theorem dX0_holds_14 : decode cX0_holds 14 = .ok (.lcmp, 1) := by decide +kernel
theorem dX0_holds_15 : decode cX0_holds 15 = .ok (.ifCond .eq 7, 3) := by decide +kernel
theorem dX0_holds_18 : decode cX0_holds 18 = .ok (.iconst 1, 1) := by decide +kernel
theorem dX0_holds_19 : decode cX0_holds 19 = .ok (.goto 4, 3) := by decide +kernel
theorem dX0_holds_22 : decode cX0_holds 22 = .ok (.iconst 0, 1) := by decide +kernel
theorem dX0_holds_23 : decode cX0_holds 23 = .ok (.ireturn, 1) := by decide +kernel
theorem dX0_column_0 : decode cX0_column 0 = .ok (.lconst 0, 1) := by decide +kernel
theorem dX0_column_1 : decode cX0_column 1 = .ok (.lstore_n 3, 1) := by decide +kernel
theorem dX0_column_2 : decode cX0_column 2 = .ok (.iconst 0, 1) := by decide +kernel
theorem dX0_column_3 : decode cX0_column 3 = .ok (.istore 5, 2) := by decide +kernel
theorem dX0_column_5 : decode cX0_column 5 = .ok (.iload 5, 2) := by decide +kernel
theorem dX0_column_7 : decode cX0_column 7 = .ok (.aload_n 0, 1) := by decide +kernel
theorem dX0_column_8 : decode cX0_column 8 = .ok (.getfield 18, 3) := by decide +kernel
theorem dX0_column_11 : decode cX0_column 11 = .ok (.if_icmp .ge 28, 3) := by decide +kernel
theorem dX0_column_14 : decode cX0_column 14 = .ok (.aload_n 0, 1) := by decide +kernel
theorem dX0_column_15 : decode cX0_column 15 = .ok (.iload_n 1, 1) := by decide +kernel
theorem dX0_column_16 : decode cX0_column 16 = .ok (.iload 5, 2) := by decide +kernel
theorem dX0_column_18 : decode cX0_column 18 = .ok (.iload_n 2, 1) := by decide +kernel
theorem dX0_column_19 : decode cX0_column 19 = .ok (.invokevirtual 119, 3) := by decide +kernel
theorem dX0_column_22 : decode cX0_column 22 = .ok (.ifCond .eq 11, 3) := by decide +kernel
theorem dX0_column_25 : decode cX0_column 25 = .ok (.lload_n 3, 1) := by decide +kernel
theorem dX0_column_26 : decode cX0_column 26 = .ok (.iload 5, 2) := by decide +kernel
theorem dX0_column_28 : decode cX0_column 28 = .ok (.invokestatic 206, 3) := by decide +kernel
theorem dX0_column_31 : decode cX0_column 31 = .ok (.lor, 1) := by decide +kernel
theorem dX0_column_32 : decode cX0_column 32 = .ok (.lstore_n 3, 1) := by decide +kernel
theorem dX0_column_33 : decode cX0_column 33 = .ok (.iinc 5 1, 3) := by decide +kernel
theorem dX0_column_36 : decode cX0_column 36 = .ok (.goto (-31), 3) := by decide +kernel
theorem dX0_column_39 : decode cX0_column 39 = .ok (.lload_n 3, 1) := by decide +kernel
theorem dX0_column_40 : decode cX0_column 40 = .ok (.lreturn, 1) := by decide +kernel
theorem dX0_pairsOf_0 : decode cX0_pairsOf 0 = .ok (.iconst 0, 1) := by decide +kernel
theorem dX0_pairsOf_1 : decode cX0_pairsOf 1 = .ok (.istore_n 2, 1) := by decide +kernel
theorem dX0_pairsOf_2 : decode cX0_pairsOf 2 = .ok (.iconst 0, 1) := by decide +kernel
theorem dX0_pairsOf_3 : decode cX0_pairsOf 3 = .ok (.istore_n 3, 1) := by decide +kernel
theorem dX0_pairsOf_4 : decode cX0_pairsOf 4 = .ok (.iload_n 3, 1) := by decide +kernel
theorem dX0_pairsOf_5 : decode cX0_pairsOf 5 = .ok (.aload_n 0, 1) := by decide +kernel
theorem dX0_pairsOf_6 : decode cX0_pairsOf 6 = .ok (.getfield 18, 3) := by decide +kernel
theorem dX0_pairsOf_9 : decode cX0_pairsOf 9 = .ok (.if_icmp .ge 23, 3) := by decide +kernel
theorem dX0_pairsOf_12 : decode cX0_pairsOf 12 = .ok (.iload_n 2, 1) := by decide +kernel
theorem dX0_pairsOf_13 : decode cX0_pairsOf 13 = .ok (.aload_n 0, 1) := by decide +kernel
theorem dX0_pairsOf_14 : decode cX0_pairsOf 14 = .ok (.getfield 44, 3) := by decide +kernel
theorem dX0_pairsOf_17 : decode cX0_pairsOf 17 = .ok (.iload_n 1, 1) := by decide +kernel
theorem dX0_pairsOf_18 : decode cX0_pairsOf 18 = .ok (.aaload, 1) := by decide +kernel
theorem dX0_pairsOf_19 : decode cX0_pairsOf 19 = .ok (.iload_n 3, 1) := by decide +kernel
theorem dX0_pairsOf_20 : decode cX0_pairsOf 20 = .ok (.laload, 1) := by decide +kernel
theorem dX0_pairsOf_21 : decode cX0_pairsOf 21 = .ok (.invokestatic 210, 3) := by decide +kernel
theorem dX0_pairsOf_24 : decode cX0_pairsOf 24 = .ok (.iadd, 1) := by decide +kernel
theorem dX0_pairsOf_25 : decode cX0_pairsOf 25 = .ok (.istore_n 2, 1) := by decide +kernel
theorem dX0_pairsOf_26 : decode cX0_pairsOf 26 = .ok (.iinc 3 1, 3) := by decide +kernel
theorem dX0_pairsOf_29 : decode cX0_pairsOf 29 = .ok (.goto (-25), 3) := by decide +kernel
theorem dX0_pairsOf_32 : decode cX0_pairsOf 32 = .ok (.iload_n 2, 1) := by decide +kernel
theorem dX0_pairsOf_33 : decode cX0_pairsOf 33 = .ok (.ireturn, 1) := by decide +kernel
theorem dX0_pick_0 : decode cX0_pick 0 = .ok (.iload_n 3, 1) := by decide +kernel
theorem dX0_pick_1 : decode cX0_pick 1 = .ok (.ifCond .lt 11, 3) := by decide +kernel
theorem dX0_pick_4 : decode cX0_pick 4 = .ok (.iload_n 3, 1) := by decide +kernel
theorem dX0_pick_5 : decode cX0_pick 5 = .ok (.lload_n 1, 1) := by decide +kernel
theorem dX0_pick_6 : decode cX0_pick 6 = .ok (.invokestatic 210, 3) := by decide +kernel
theorem dX0_pick_9 : decode cX0_pick 9 = .ok (.if_icmp .lt 13, 3) := by decide +kernel
theorem dX0_pick_12 : decode cX0_pick 12 = .ok (.new 144, 3) := by decide +kernel
theorem dX0_pick_15 : decode cX0_pick 15 = .ok (.dup, 1) := by decide +kernel
theorem dX0_pick_16 : decode cX0_pick 16 = .ok (.ldc 213, 2) := by decide +kernel
theorem dX0_pick_18 : decode cX0_pick 18 = .ok (.invokespecial 148, 3) := by decide +kernel
theorem dX0_pick_21 : decode cX0_pick 21 = .ok (.athrow, 1) := by decide +kernel
theorem dX0_pick_22 : decode cX0_pick 22 = .ok (.lload_n 1, 1) := by decide +kernel
theorem dX0_pick_23 : decode cX0_pick 23 = .ok (.lstore 4, 2) := by decide +kernel
theorem dX0_pick_25 : decode cX0_pick 25 = .ok (.iconst 0, 1) := by decide +kernel
theorem dX0_pick_26 : decode cX0_pick 26 = .ok (.istore 6, 2) := by decide +kernel
theorem dX0_pick_28 : decode cX0_pick 28 = .ok (.iload 6, 2) := by decide +kernel
theorem dX0_pick_30 : decode cX0_pick 30 = .ok (.iload_n 3, 1) := by decide +kernel
theorem dX0_pick_31 : decode cX0_pick 31 = .ok (.if_icmp .ge 18, 3) := by decide +kernel
theorem dX0_pick_34 : decode cX0_pick 34 = .ok (.lload 4, 2) := by decide +kernel
theorem dX0_pick_36 : decode cX0_pick 36 = .ok (.lload 4, 2) := by decide +kernel
theorem dX0_pick_38 : decode cX0_pick 38 = .ok (.lconst 1, 1) := by decide +kernel
theorem dX0_pick_39 : decode cX0_pick 39 = .ok (.lsub, 1) := by decide +kernel
theorem dX0_pick_40 : decode cX0_pick 40 = .ok (.land, 1) := by decide +kernel
theorem dX0_pick_41 : decode cX0_pick 41 = .ok (.lstore 4, 2) := by decide +kernel
theorem dX0_pick_43 : decode cX0_pick 43 = .ok (.iinc 6 1, 3) := by decide +kernel
theorem dX0_pick_46 : decode cX0_pick 46 = .ok (.goto (-18), 3) := by decide +kernel
theorem dX0_pick_49 : decode cX0_pick 49 = .ok (.lload 4, 2) := by decide +kernel
theorem dX0_pick_51 : decode cX0_pick 51 = .ok (.invokestatic 177, 3) := by decide +kernel
theorem dX0_pick_54 : decode cX0_pick 54 = .ok (.ireturn, 1) := by decide +kernel
theorem dX0_pushOut_0 : decode cX0_pushOut 0 = .ok (.aload_n 0, 1) := by decide +kernel
theorem dX0_pushOut_1 : decode cX0_pushOut 1 = .ok (.getfield 33, 3) := by decide +kernel
theorem dX0_pushOut_4 : decode cX0_pushOut 4 = .ok (.iload_n 1, 1) := by decide +kernel
theorem dX0_pushOut_5 : decode cX0_pushOut 5 = .ok (.iaload, 1) := by decide +kernel
theorem dX0_pushOut_6 : decode cX0_pushOut 6 = .ok (.tableswitch 82 0 4 #[34, 49, 58, 82, 67], 34) := by decide +kernel
theorem dX0_pushOut_40 : decode cX0_pushOut 40 = .ok (.aload_n 0, 1) := by decide +kernel
theorem dX0_pushOut_41 : decode cX0_pushOut 41 = .ok (.iload_n 1, 1) := by decide +kernel
theorem dX0_pushOut_42 : decode cX0_pushOut 42 = .ok (.iload_n 2, 1) := by decide +kernel
theorem dX0_pushOut_43 : decode cX0_pushOut 43 = .ok (.invokevirtual 215, 3) := by decide +kernel
theorem dX0_pushOut_46 : decode cX0_pushOut 46 = .ok (.aload_n 0, 1) := by decide +kernel
theorem dX0_pushOut_47 : decode cX0_pushOut 47 = .ok (.iload_n 1, 1) := by decide +kernel
theorem dX0_pushOut_48 : decode cX0_pushOut 48 = .ok (.iload_n 3, 1) := by decide +kernel
theorem dX0_pushOut_49 : decode cX0_pushOut 49 = .ok (.invokevirtual 218, 3) := by decide +kernel
theorem dX0_pushOut_52 : decode cX0_pushOut 52 = .ok (.goto 36, 3) := by decide +kernel
theorem dX0_pushOut_55 : decode cX0_pushOut 55 = .ok (.aload_n 0, 1) := by decide +kernel
theorem dX0_pushOut_56 : decode cX0_pushOut 56 = .ok (.iload_n 1, 1) := by decide +kernel
theorem dX0_pushOut_57 : decode cX0_pushOut 57 = .ok (.iload_n 3, 1) := by decide +kernel
theorem dX0_pushOut_58 : decode cX0_pushOut 58 = .ok (.invokevirtual 218, 3) := by decide +kernel
theorem dX0_pushOut_61 : decode cX0_pushOut 61 = .ok (.goto 27, 3) := by decide +kernel
theorem dX0_pushOut_64 : decode cX0_pushOut 64 = .ok (.aload_n 0, 1) := by decide +kernel
theorem dX0_pushOut_65 : decode cX0_pushOut 65 = .ok (.iload_n 1, 1) := by decide +kernel
theorem dX0_pushOut_66 : decode cX0_pushOut 66 = .ok (.iload_n 2, 1) := by decide +kernel
theorem dX0_pushOut_67 : decode cX0_pushOut 67 = .ok (.invokevirtual 215, 3) := by decide +kernel
theorem dX0_pushOut_70 : decode cX0_pushOut 70 = .ok (.goto 18, 3) := by decide +kernel
theorem dX0_pushOut_73 : decode cX0_pushOut 73 = .ok (.aload_n 0, 1) := by decide +kernel
theorem dX0_pushOut_74 : decode cX0_pushOut 74 = .ok (.iload_n 1, 1) := by decide +kernel
theorem dX0_pushOut_75 : decode cX0_pushOut 75 = .ok (.iload_n 2, 1) := by decide +kernel
theorem dX0_pushOut_76 : decode cX0_pushOut 76 = .ok (.invokevirtual 215, 3) := by decide +kernel
theorem dX0_pushOut_79 : decode cX0_pushOut 79 = .ok (.aload_n 0, 1) := by decide +kernel
theorem dX0_pushOut_80 : decode cX0_pushOut 80 = .ok (.iload_n 1, 1) := by decide +kernel
theorem dX0_pushOut_81 : decode cX0_pushOut 81 = .ok (.iload_n 3, 1) := by decide +kernel
theorem dX0_pushOut_82 : decode cX0_pushOut 82 = .ok (.invokevirtual 215, 3) := by decide +kernel
theorem dX0_pushOut_85 : decode cX0_pushOut 85 = .ok (.goto 3, 3) := by decide +kernel
theorem dX0_pushOut_88 : decode cX0_pushOut 88 = .ok (.return_, 1) := by decide +kernel
theorem dX0_pushRow_0 : decode cX0_pushRow 0 = .ok (.iconst 0, 1) := by decide +kernel
theorem dX0_pushRow_1 : decode cX0_pushRow 1 = .ok (.istore_n 3, 1) := by decide +kernel
theorem dX0_pushRow_2 : decode cX0_pushRow 2 = .ok (.iload_n 3, 1) := by decide +kernel
theorem dX0_pushRow_3 : decode cX0_pushRow 3 = .ok (.aload_n 0, 1) := by decide +kernel
theorem dX0_pushRow_4 : decode cX0_pushRow 4 = .ok (.getfield 18, 3) := by decide +kernel
theorem dX0_pushRow_7 : decode cX0_pushRow 7 = .ok (.if_icmp .ge 26, 3) := by decide +kernel
theorem dX0_pushRow_10 : decode cX0_pushRow 10 = .ok (.aload_n 0, 1) := by decide +kernel
theorem dX0_pushRow_11 : decode cX0_pushRow 11 = .ok (.iload_n 1, 1) := by decide +kernel
theorem dX0_pushRow_12 : decode cX0_pushRow 12 = .ok (.iload_n 2, 1) := by decide +kernel
theorem dX0_pushRow_13 : decode cX0_pushRow 13 = .ok (.iload_n 3, 1) := by decide +kernel
theorem dX0_pushRow_14 : decode cX0_pushRow 14 = .ok (.invokevirtual 119, 3) := by decide +kernel
theorem dX0_pushRow_17 : decode cX0_pushRow 17 = .ok (.ifCond .eq 10, 3) := by decide +kernel
theorem dX0_pushRow_20 : decode cX0_pushRow 20 = .ok (.aload_n 0, 1) := by decide +kernel
theorem dX0_pushRow_21 : decode cX0_pushRow 21 = .ok (.iload_n 1, 1) := by decide +kernel
theorem dX0_pushRow_22 : decode cX0_pushRow 22 = .ok (.iload_n 2, 1) := by decide +kernel
theorem dX0_pushRow_23 : decode cX0_pushRow 23 = .ok (.iload_n 3, 1) := by decide +kernel
theorem dX0_pushRow_24 : decode cX0_pushRow 24 = .ok (.invokevirtual 221, 3) := by decide +kernel
theorem dX0_pushRow_27 : decode cX0_pushRow 27 = .ok (.iinc 3 1, 3) := by decide +kernel
theorem dX0_pushRow_30 : decode cX0_pushRow 30 = .ok (.goto (-28), 3) := by decide +kernel
theorem dX0_pushRow_33 : decode cX0_pushRow 33 = .ok (.return_, 1) := by decide +kernel
theorem dX0_pushColumn_0 : decode cX0_pushColumn 0 = .ok (.iconst 0, 1) := by decide +kernel
theorem dX0_pushColumn_1 : decode cX0_pushColumn 1 = .ok (.istore_n 3, 1) := by decide +kernel
theorem dX0_pushColumn_2 : decode cX0_pushColumn 2 = .ok (.iload_n 3, 1) := by decide +kernel
theorem dX0_pushColumn_3 : decode cX0_pushColumn 3 = .ok (.aload_n 0, 1) := by decide +kernel
theorem dX0_pushColumn_4 : decode cX0_pushColumn 4 = .ok (.getfield 18, 3) := by decide +kernel
theorem dX0_pushColumn_7 : decode cX0_pushColumn 7 = .ok (.if_icmp .ge 26, 3) := by decide +kernel
theorem dX0_pushColumn_10 : decode cX0_pushColumn 10 = .ok (.aload_n 0, 1) := by decide +kernel
theorem dX0_pushColumn_11 : decode cX0_pushColumn 11 = .ok (.iload_n 1, 1) := by decide +kernel
theorem dX0_pushColumn_12 : decode cX0_pushColumn 12 = .ok (.iload_n 3, 1) := by decide +kernel
theorem dX0_pushColumn_13 : decode cX0_pushColumn 13 = .ok (.iload_n 2, 1) := by decide +kernel
theorem dX0_pushColumn_14 : decode cX0_pushColumn 14 = .ok (.invokevirtual 119, 3) := by decide +kernel
theorem dX0_pushColumn_17 : decode cX0_pushColumn 17 = .ok (.ifCond .eq 10, 3) := by decide +kernel
theorem dX0_pushColumn_20 : decode cX0_pushColumn 20 = .ok (.aload_n 0, 1) := by decide +kernel
theorem dX0_pushColumn_21 : decode cX0_pushColumn 21 = .ok (.iload_n 1, 1) := by decide +kernel
theorem dX0_pushColumn_22 : decode cX0_pushColumn 22 = .ok (.iload_n 3, 1) := by decide +kernel
theorem dX0_pushColumn_23 : decode cX0_pushColumn 23 = .ok (.iload_n 2, 1) := by decide +kernel
theorem dX0_pushColumn_24 : decode cX0_pushColumn 24 = .ok (.invokevirtual 221, 3) := by decide +kernel
theorem dX0_pushColumn_27 : decode cX0_pushColumn 27 = .ok (.iinc 3 1, 3) := by decide +kernel
theorem dX0_pushColumn_30 : decode cX0_pushColumn 30 = .ok (.goto (-28), 3) := by decide +kernel
theorem dX0_pushColumn_33 : decode cX0_pushColumn 33 = .ok (.return_, 1) := by decide +kernel
theorem dX0_pushPair_0 : decode cX0_pushPair 0 = .ok (.aload_n 0, 1) := by decide +kernel
theorem dX0_pushPair_1 : decode cX0_pushPair 1 = .ok (.iload_n 1, 1) := by decide +kernel
theorem dX0_pushPair_2 : decode cX0_pushPair 2 = .ok (.iload_n 2, 1) := by decide +kernel
theorem dX0_pushPair_3 : decode cX0_pushPair 3 = .ok (.iload_n 3, 1) := by decide +kernel
theorem dX0_pushPair_4 : decode cX0_pushPair 4 = .ok (.invokevirtual 132, 3) := by decide +kernel
theorem dX0_pushPair_7 : decode cX0_pushPair 7 = .ok (.aload_n 0, 1) := by decide +kernel
theorem dX0_pushPair_8 : decode cX0_pushPair 8 = .ok (.getfield 62, 3) := by decide +kernel
theorem dX0_pushPair_11 : decode cX0_pushPair 11 = .ok (.iconst 2, 1) := by decide +kernel
theorem dX0_pushPair_12 : decode cX0_pushPair 12 = .ok (.if_icmp .ge 33, 3) := by decide +kernel
theorem dX0_pushPair_15 : decode cX0_pushPair 15 = .ok (.aload_n 0, 1) := by decide +kernel
theorem dX0_pushPair_16 : decode cX0_pushPair 16 = .ok (.getfield 47, 3) := by decide +kernel
theorem dX0_pushPair_19 : decode cX0_pushPair 19 = .ok (.aload_n 0, 1) := by decide +kernel
theorem dX0_pushPair_20 : decode cX0_pushPair 20 = .ok (.getfield 62, 3) := by decide +kernel
theorem dX0_pushPair_23 : decode cX0_pushPair 23 = .ok (.iload_n 2, 1) := by decide +kernel
theorem dX0_pushPair_24 : decode cX0_pushPair 24 = .ok (.iastore, 1) := by decide +kernel
theorem dX0_pushPair_25 : decode cX0_pushPair 25 = .ok (.aload_n 0, 1) := by decide +kernel
theorem dX0_pushPair_26 : decode cX0_pushPair 26 = .ok (.getfield 50, 3) := by decide +kernel
theorem dX0_pushPair_29 : decode cX0_pushPair 29 = .ok (.aload_n 0, 1) := by decide +kernel
theorem dX0_pushPair_30 : decode cX0_pushPair 30 = .ok (.getfield 62, 3) := by decide +kernel
theorem dX0_pushPair_33 : decode cX0_pushPair 33 = .ok (.iload_n 3, 1) := by decide +kernel
theorem dX0_pushPair_34 : decode cX0_pushPair 34 = .ok (.iastore, 1) := by decide +kernel
theorem dX0_pushPair_35 : decode cX0_pushPair 35 = .ok (.aload_n 0, 1) := by decide +kernel
theorem dX0_pushPair_36 : decode cX0_pushPair 36 = .ok (.dup, 1) := by decide +kernel
theorem dX0_pushPair_37 : decode cX0_pushPair 37 = .ok (.getfield 62, 3) := by decide +kernel
theorem dX0_pushPair_40 : decode cX0_pushPair 40 = .ok (.iconst 1, 1) := by decide +kernel
theorem dX0_pushPair_41 : decode cX0_pushPair 41 = .ok (.iadd, 1) := by decide +kernel
theorem dX0_pushPair_42 : decode cX0_pushPair 42 = .ok (.putfield 62, 3) := by decide +kernel
theorem dX0_pushPair_45 : decode cX0_pushPair 45 = .ok (.return_, 1) := by decide +kernel
theorem dX0_goesBothWays_0 : decode cX0_goesBothWays 0 = .ok (.aload_n 0, 1) := by decide +kernel
theorem dX0_goesBothWays_1 : decode cX0_goesBothWays 1 = .ok (.getfield 33, 3) := by decide +kernel
theorem dX0_goesBothWays_4 : decode cX0_goesBothWays 4 = .ok (.iload_n 1, 1) := by decide +kernel
theorem dX0_goesBothWays_5 : decode cX0_goesBothWays 5 = .ok (.iaload, 1) := by decide +kernel
theorem dX0_goesBothWays_6 : decode cX0_goesBothWays 6 = .ok (.iconst 4, 1) := by decide +kernel
theorem dX0_goesBothWays_7 : decode cX0_goesBothWays 7 = .ok (.if_icmp .eq 13, 3) := by decide +kernel
theorem dX0_goesBothWays_10 : decode cX0_goesBothWays 10 = .ok (.aload_n 0, 1) := by decide +kernel
theorem dX0_goesBothWays_11 : decode cX0_goesBothWays 11 = .ok (.getfield 33, 3) := by decide +kernel
theorem dX0_goesBothWays_14 : decode cX0_goesBothWays 14 = .ok (.iload_n 1, 1) := by decide +kernel
theorem dX0_goesBothWays_15 : decode cX0_goesBothWays 15 = .ok (.iaload, 1) := by decide +kernel
theorem dX0_goesBothWays_16 : decode cX0_goesBothWays 16 = .ok (.iconst 5, 1) := by decide +kernel
theorem dX0_goesBothWays_17 : decode cX0_goesBothWays 17 = .ok (.if_icmp .ne 7, 3) := by decide +kernel
theorem dX0_goesBothWays_20 : decode cX0_goesBothWays 20 = .ok (.iconst 1, 1) := by decide +kernel
theorem dX0_goesBothWays_21 : decode cX0_goesBothWays 21 = .ok (.goto 4, 3) := by decide +kernel
theorem dX0_goesBothWays_24 : decode cX0_goesBothWays 24 = .ok (.iconst 0, 1) := by decide +kernel
theorem dX0_goesBothWays_25 : decode cX0_goesBothWays 25 = .ok (.ireturn, 1) := by decide +kernel
theorem dX0_join_0 : decode cX0_join 0 = .ok (.aload_n 0, 1) := by decide +kernel
theorem dX0_join_1 : decode cX0_join 1 = .ok (.getfield 33, 3) := by decide +kernel
theorem dX0_join_4 : decode cX0_join 4 = .ok (.iload_n 1, 1) := by decide +kernel
theorem dX0_join_5 : decode cX0_join 5 = .ok (.iaload, 1) := by decide +kernel
theorem dX0_join_6 : decode cX0_join 6 = .ok (.bipush 6, 2) := by decide +kernel
theorem dX0_join_8 : decode cX0_join 8 = .ok (.if_icmp .ne 26, 3) := by decide +kernel
theorem dX0_join_11 : decode cX0_join 11 = .ok (.aload_n 0, 1) := by decide +kernel
theorem dX0_join_12 : decode cX0_join 12 = .ok (.iload_n 1, 1) := by decide +kernel
theorem dX0_join_13 : decode cX0_join 13 = .ok (.aload_n 0, 1) := by decide +kernel
theorem dX0_join_14 : decode cX0_join 14 = .ok (.getfield 44, 3) := by decide +kernel
theorem dX0_join_17 : decode cX0_join 17 = .ok (.iload_n 1, 1) := by decide +kernel
theorem dX0_join_18 : decode cX0_join 18 = .ok (.aaload, 1) := by decide +kernel
theorem dX0_join_19 : decode cX0_join 19 = .ok (.iload_n 2, 1) := by decide +kernel
theorem dX0_join_20 : decode cX0_join 20 = .ok (.laload, 1) := by decide +kernel
theorem dX0_join_21 : decode cX0_join 21 = .ok (.aload_n 0, 1) := by decide +kernel
theorem dX0_join_22 : decode cX0_join 22 = .ok (.getfield 44, 3) := by decide +kernel
theorem dX0_join_25 : decode cX0_join 25 = .ok (.iload_n 1, 1) := by decide +kernel
theorem dX0_join_26 : decode cX0_join 26 = .ok (.aaload, 1) := by decide +kernel
theorem dX0_join_27 : decode cX0_join 27 = .ok (.iload_n 3, 1) := by decide +kernel
theorem dX0_join_28 : decode cX0_join 28 = .ok (.laload, 1) := by decide +kernel
theorem dX0_join_29 : decode cX0_join 29 = .ok (.lor, 1) := by decide +kernel
theorem dX0_join_30 : decode cX0_join 30 = .ok (.invokevirtual 224, 3) := by decide +kernel
theorem dX0_join_33 : decode cX0_join 33 = .ok (.return_, 1) := by decide +kernel
theorem dX0_join_34 : decode cX0_join 34 = .ok (.aload_n 0, 1) := by decide +kernel
theorem dX0_join_35 : decode cX0_join 35 = .ok (.getfield 44, 3) := by decide +kernel
theorem dX0_join_38 : decode cX0_join 38 = .ok (.iload_n 1, 1) := by decide +kernel
theorem dX0_join_39 : decode cX0_join 39 = .ok (.aaload, 1) := by decide +kernel
theorem dX0_join_40 : decode cX0_join 40 = .ok (.iload_n 2, 1) := by decide +kernel
theorem dX0_join_41 : decode cX0_join 41 = .ok (.dup2, 1) := by decide +kernel
theorem dX0_join_42 : decode cX0_join 42 = .ok (.laload, 1) := by decide +kernel
theorem dX0_join_43 : decode cX0_join 43 = .ok (.iload_n 3, 1) := by decide +kernel
theorem dX0_join_44 : decode cX0_join 44 = .ok (.invokestatic 206, 3) := by decide +kernel
theorem dX0_join_47 : decode cX0_join 47 = .ok (.lor, 1) := by decide +kernel
theorem dX0_join_48 : decode cX0_join 48 = .ok (.lastore, 1) := by decide +kernel
theorem dX0_join_49 : decode cX0_join 49 = .ok (.aload_n 0, 1) := by decide +kernel
theorem dX0_join_50 : decode cX0_join 50 = .ok (.iload_n 1, 1) := by decide +kernel
theorem dX0_join_51 : decode cX0_join 51 = .ok (.invokevirtual 228, 3) := by decide +kernel
theorem dX0_join_54 : decode cX0_join 54 = .ok (.ifCond .eq 18, 3) := by decide +kernel
theorem dX0_join_57 : decode cX0_join 57 = .ok (.aload_n 0, 1) := by decide +kernel
theorem dX0_join_58 : decode cX0_join 58 = .ok (.getfield 44, 3) := by decide +kernel
theorem dX0_join_61 : decode cX0_join 61 = .ok (.iload_n 1, 1) := by decide +kernel
theorem dX0_join_62 : decode cX0_join 62 = .ok (.aaload, 1) := by decide +kernel
theorem dX0_join_63 : decode cX0_join 63 = .ok (.iload_n 3, 1) := by decide +kernel
theorem dX0_join_64 : decode cX0_join 64 = .ok (.dup2, 1) := by decide +kernel
theorem dX0_join_65 : decode cX0_join 65 = .ok (.laload, 1) := by decide +kernel
theorem dX0_join_66 : decode cX0_join 66 = .ok (.iload_n 2, 1) := by decide +kernel
theorem dX0_join_67 : decode cX0_join 67 = .ok (.invokestatic 206, 3) := by decide +kernel
theorem dX0_join_70 : decode cX0_join 70 = .ok (.lor, 1) := by decide +kernel
theorem dX0_join_71 : decode cX0_join 71 = .ok (.lastore, 1) := by decide +kernel
theorem dX0_join_72 : decode cX0_join 72 = .ok (.return_, 1) := by decide +kernel
theorem dX0_part_0 : decode cX0_part 0 = .ok (.aload_n 0, 1) := by decide +kernel
theorem dX0_part_1 : decode cX0_part 1 = .ok (.getfield 33, 3) := by decide +kernel
theorem dX0_part_4 : decode cX0_part 4 = .ok (.iload_n 1, 1) := by decide +kernel
theorem dX0_part_5 : decode cX0_part 5 = .ok (.iaload, 1) := by decide +kernel
theorem dX0_part_6 : decode cX0_part 6 = .ok (.bipush 6, 2) := by decide +kernel
theorem dX0_part_8 : decode cX0_part 8 = .ok (.if_icmp .ne 35, 3) := by decide +kernel
theorem dX0_part_11 : decode cX0_part 11 = .ok (.aload_n 0, 1) := by decide +kernel
theorem dX0_part_12 : decode cX0_part 12 = .ok (.iload_n 1, 1) := by decide +kernel
theorem dX0_part_13 : decode cX0_part 13 = .ok (.aload_n 0, 1) := by decide +kernel
theorem dX0_part_14 : decode cX0_part 14 = .ok (.getfield 44, 3) := by decide +kernel
theorem dX0_part_17 : decode cX0_part 17 = .ok (.iload_n 1, 1) := by decide +kernel
theorem dX0_part_18 : decode cX0_part 18 = .ok (.aaload, 1) := by decide +kernel
theorem dX0_part_19 : decode cX0_part 19 = .ok (.iload_n 2, 1) := by decide +kernel
theorem dX0_part_20 : decode cX0_part 20 = .ok (.laload, 1) := by decide +kernel
theorem dX0_part_21 : decode cX0_part 21 = .ok (.iload_n 2, 1) := by decide +kernel
theorem dX0_part_22 : decode cX0_part 22 = .ok (.invokestatic 206, 3) := by decide +kernel
theorem dX0_part_25 : decode cX0_part 25 = .ok (.ldc2_w 231, 3) := by decide +kernel
theorem dX0_part_28 : decode cX0_part 28 = .ok (.lxor, 1) := by decide +kernel
theorem dX0_part_29 : decode cX0_part 29 = .ok (.land, 1) := by decide +kernel
theorem dX0_part_30 : decode cX0_part 30 = .ok (.invokevirtual 224, 3) := by decide +kernel
theorem dX0_part_33 : decode cX0_part 33 = .ok (.aload_n 0, 1) := by decide +kernel
theorem dX0_part_34 : decode cX0_part 34 = .ok (.iload_n 1, 1) := by decide +kernel
theorem dX0_part_35 : decode cX0_part 35 = .ok (.iload_n 2, 1) := by decide +kernel
theorem dX0_part_36 : decode cX0_part 36 = .ok (.invokestatic 206, 3) := by decide +kernel
theorem dX0_part_39 : decode cX0_part 39 = .ok (.invokevirtual 224, 3) := by decide +kernel
theorem dX0_part_42 : decode cX0_part 42 = .ok (.return_, 1) := by decide +kernel
theorem dX0_part_43 : decode cX0_part 43 = .ok (.aload_n 0, 1) := by decide +kernel
theorem dX0_part_44 : decode cX0_part 44 = .ok (.getfield 44, 3) := by decide +kernel
theorem dX0_part_47 : decode cX0_part 47 = .ok (.iload_n 1, 1) := by decide +kernel
theorem dX0_part_48 : decode cX0_part 48 = .ok (.aaload, 1) := by decide +kernel
theorem dX0_part_49 : decode cX0_part 49 = .ok (.iload_n 2, 1) := by decide +kernel
theorem dX0_part_50 : decode cX0_part 50 = .ok (.dup2, 1) := by decide +kernel
theorem dX0_part_51 : decode cX0_part 51 = .ok (.laload, 1) := by decide +kernel
theorem dX0_part_52 : decode cX0_part 52 = .ok (.iload_n 3, 1) := by decide +kernel
theorem dX0_part_53 : decode cX0_part 53 = .ok (.invokestatic 206, 3) := by decide +kernel
theorem dX0_part_56 : decode cX0_part 56 = .ok (.ldc2_w 231, 3) := by decide +kernel
theorem dX0_part_59 : decode cX0_part 59 = .ok (.lxor, 1) := by decide +kernel
theorem dX0_part_60 : decode cX0_part 60 = .ok (.land, 1) := by decide +kernel
theorem dX0_part_61 : decode cX0_part 61 = .ok (.lastore, 1) := by decide +kernel
theorem dX0_part_62 : decode cX0_part 62 = .ok (.aload_n 0, 1) := by decide +kernel
theorem dX0_part_63 : decode cX0_part 63 = .ok (.iload_n 1, 1) := by decide +kernel
theorem dX0_part_64 : decode cX0_part 64 = .ok (.invokevirtual 228, 3) := by decide +kernel
theorem dX0_part_67 : decode cX0_part 67 = .ok (.ifCond .eq 22, 3) := by decide +kernel
theorem dX0_part_70 : decode cX0_part 70 = .ok (.aload_n 0, 1) := by decide +kernel
theorem dX0_part_71 : decode cX0_part 71 = .ok (.getfield 44, 3) := by decide +kernel
theorem dX0_part_74 : decode cX0_part 74 = .ok (.iload_n 1, 1) := by decide +kernel
theorem dX0_part_75 : decode cX0_part 75 = .ok (.aaload, 1) := by decide +kernel
theorem dX0_part_76 : decode cX0_part 76 = .ok (.iload_n 3, 1) := by decide +kernel
theorem dX0_part_77 : decode cX0_part 77 = .ok (.dup2, 1) := by decide +kernel
theorem dX0_part_78 : decode cX0_part 78 = .ok (.laload, 1) := by decide +kernel
theorem dX0_part_79 : decode cX0_part 79 = .ok (.iload_n 2, 1) := by decide +kernel
theorem dX0_part_80 : decode cX0_part 80 = .ok (.invokestatic 206, 3) := by decide +kernel
theorem dX0_part_83 : decode cX0_part 83 = .ok (.ldc2_w 231, 3) := by decide +kernel
theorem dX0_part_86 : decode cX0_part 86 = .ok (.lxor, 1) := by decide +kernel
theorem dX0_part_87 : decode cX0_part 87 = .ok (.land, 1) := by decide +kernel
theorem dX0_part_88 : decode cX0_part 88 = .ok (.lastore, 1) := by decide +kernel
theorem dX0_part_89 : decode cX0_part 89 = .ok (.return_, 1) := by decide +kernel
theorem dX0_makeClass_0 : decode cX0_makeClass 0 = .ok (.iconst 0, 1) := by decide +kernel
theorem dX0_makeClass_1 : decode cX0_makeClass 1 = .ok (.istore 4, 2) := by decide +kernel
theorem dX0_makeClass_3 : decode cX0_makeClass 3 = .ok (.iload 4, 2) := by decide +kernel
theorem dX0_makeClass_5 : decode cX0_makeClass 5 = .ok (.aload_n 0, 1) := by decide +kernel
theorem dX0_makeClass_6 : decode cX0_makeClass 6 = .ok (.getfield 18, 3) := by decide +kernel
theorem dX0_makeClass_9 : decode cX0_makeClass 9 = .ok (.if_icmp .ge 31, 3) := by decide +kernel
theorem dX0_makeClass_12 : decode cX0_makeClass 12 = .ok (.lload_n 2, 1) := by decide +kernel
theorem dX0_makeClass_13 : decode cX0_makeClass 13 = .ok (.iload 4, 2) := by decide +kernel
theorem dX0_makeClass_15 : decode cX0_makeClass 15 = .ok (.invokestatic 206, 3) := by decide +kernel
theorem dX0_makeClass_18 : decode cX0_makeClass 18 = .ok (.land, 1) := by decide +kernel
theorem dX0_makeClass_19 : decode cX0_makeClass 19 = .ok (.lconst 0, 1) := by decide +kernel
theorem dX0_makeClass_20 : decode cX0_makeClass 20 = .ok (.lcmp, 1) := by decide +kernel
theorem dX0_makeClass_21 : decode cX0_makeClass 21 = .ok (.ifCond .eq 13, 3) := by decide +kernel
theorem dX0_makeClass_24 : decode cX0_makeClass 24 = .ok (.aload_n 0, 1) := by decide +kernel
theorem dX0_makeClass_25 : decode cX0_makeClass 25 = .ok (.getfield 44, 3) := by decide +kernel
theorem dX0_makeClass_28 : decode cX0_makeClass 28 = .ok (.iload_n 1, 1) := by decide +kernel
theorem dX0_makeClass_29 : decode cX0_makeClass 29 = .ok (.aaload, 1) := by decide +kernel
theorem dX0_makeClass_30 : decode cX0_makeClass 30 = .ok (.iload 4, 2) := by decide +kernel
theorem dX0_makeClass_32 : decode cX0_makeClass 32 = .ok (.lload_n 2, 1) := by decide +kernel
theorem dX0_makeClass_33 : decode cX0_makeClass 33 = .ok (.lastore, 1) := by decide +kernel
theorem dX0_makeClass_34 : decode cX0_makeClass 34 = .ok (.iinc 4 1, 3) := by decide +kernel
theorem dX0_makeClass_37 : decode cX0_makeClass 37 = .ok (.goto (-34), 3) := by decide +kernel
theorem dX0_makeClass_40 : decode cX0_makeClass 40 = .ok (.return_, 1) := by decide +kernel
theorem dX0_makeStale_0 : decode cX0_makeStale 0 = .ok (.aload_n 0, 1) := by decide +kernel
theorem dX0_makeStale_1 : decode cX0_makeStale 1 = .ok (.aload_n 0, 1) := by decide +kernel
theorem dX0_makeStale_2 : decode cX0_makeStale 2 = .ok (.getfield 59, 3) := by decide +kernel
theorem dX0_makeStale_5 : decode cX0_makeStale 5 = .ok (.iload_n 1, 1) := by decide +kernel
theorem dX0_makeStale_6 : decode cX0_makeStale 6 = .ok (.iconst 1, 1) := by decide +kernel
theorem dX0_makeStale_7 : decode cX0_makeStale 7 = .ok (.iadd, 1) := by decide +kernel
theorem dX0_makeStale_8 : decode cX0_makeStale 8 = .ok (.invokestatic 9, 3) := by decide +kernel
theorem dX0_makeStale_11 : decode cX0_makeStale 11 = .ok (.putfield 59, 3) := by decide +kernel
theorem dX0_makeStale_14 : decode cX0_makeStale 14 = .ok (.return_, 1) := by decide +kernel
theorem dX0_settle_0 : decode cX0_settle 0 = .ok (.aload_n 0, 1) := by decide +kernel
theorem dX0_settle_1 : decode cX0_settle 1 = .ok (.getfield 59, 3) := by decide +kernel
theorem dX0_settle_4 : decode cX0_settle 4 = .ok (.istore_n 2, 1) := by decide +kernel
theorem dX0_settle_5 : decode cX0_settle 5 = .ok (.iload_n 2, 1) := by decide +kernel
theorem dX0_settle_6 : decode cX0_settle 6 = .ok (.iload_n 1, 1) := by decide +kernel
theorem dX0_settle_7 : decode cX0_settle 7 = .ok (.if_icmp .gt 22, 3) := by decide +kernel
theorem dX0_settle_10 : decode cX0_settle 10 = .ok (.aload_n 0, 1) := by decide +kernel
theorem dX0_settle_11 : decode cX0_settle 11 = .ok (.iload_n 2, 1) := by decide +kernel
theorem dX0_settle_12 : decode cX0_settle 12 = .ok (.invokevirtual 197, 3) := by decide +kernel
theorem dX0_settle_15 : decode cX0_settle 15 = .ok (.ifCond .eq 8, 3) := by decide +kernel
theorem dX0_settle_18 : decode cX0_settle 18 = .ok (.aload_n 0, 1) := by decide +kernel
theorem dX0_settle_19 : decode cX0_settle 19 = .ok (.iload_n 2, 1) := by decide +kernel
theorem dX0_settle_20 : decode cX0_settle 20 = .ok (.invokevirtual 233, 3) := by decide +kernel
theorem dX0_settle_23 : decode cX0_settle 23 = .ok (.iinc 2 1, 3) := by decide +kernel
theorem dX0_settle_26 : decode cX0_settle 26 = .ok (.goto (-21), 3) := by decide +kernel
theorem dX0_settle_29 : decode cX0_settle 29 = .ok (.aload_n 0, 1) := by decide +kernel
theorem dX0_settle_30 : decode cX0_settle 30 = .ok (.aload_n 0, 1) := by decide +kernel
theorem dX0_settle_31 : decode cX0_settle 31 = .ok (.getfield 59, 3) := by decide +kernel
theorem dX0_settle_34 : decode cX0_settle 34 = .ok (.iload_n 1, 1) := by decide +kernel
theorem dX0_settle_35 : decode cX0_settle 35 = .ok (.iconst 1, 1) := by decide +kernel
theorem dX0_settle_36 : decode cX0_settle 36 = .ok (.iadd, 1) := by decide +kernel
theorem dX0_settle_37 : decode cX0_settle 37 = .ok (.invokestatic 15, 3) := by decide +kernel
theorem dX0_settle_40 : decode cX0_settle 40 = .ok (.putfield 59, 3) := by decide +kernel
theorem dX0_settle_43 : decode cX0_settle 43 = .ok (.return_, 1) := by decide +kernel
theorem dX0_workOut_0 : decode cX0_workOut 0 = .ok (.aload_n 0, 1) := by decide +kernel
theorem dX0_workOut_1 : decode cX0_workOut 1 = .ok (.getfield 33, 3) := by decide +kernel
theorem dX0_workOut_4 : decode cX0_workOut 4 = .ok (.iload_n 1, 1) := by decide +kernel
theorem dX0_workOut_5 : decode cX0_workOut 5 = .ok (.iaload, 1) := by decide +kernel
theorem dX0_workOut_6 : decode cX0_workOut 6 = .ok (.bipush 10, 2) := by decide +kernel
theorem dX0_workOut_8 : decode cX0_workOut 8 = .ok (.isub, 1) := by decide +kernel
theorem dX0_workOut_9 : decode cX0_workOut 9 = .ok (.istore_n 2, 1) := by decide +kernel
theorem dX0_workOut_10 : decode cX0_workOut 10 = .ok (.iload_n 2, 1) := by decide +kernel
theorem dX0_workOut_11 : decode cX0_workOut 11 = .ok (.iconst 5, 1) := by decide +kernel
theorem dX0_workOut_12 : decode cX0_workOut 12 = .ok (.if_icmp .ne 9, 3) := by decide +kernel
theorem dX0_workOut_15 : decode cX0_workOut 15 = .ok (.aload_n 0, 1) := by decide +kernel
theorem dX0_workOut_16 : decode cX0_workOut 16 = .ok (.iload_n 1, 1) := by decide +kernel
theorem dX0_workOut_17 : decode cX0_workOut 17 = .ok (.invokevirtual 236, 3) := by decide +kernel
theorem dX0_workOut_20 : decode cX0_workOut 20 = .ok (.return_, 1) := by decide +kernel
theorem dX0_workOut_21 : decode cX0_workOut 21 = .ok (.iconst 0, 1) := by decide +kernel
theorem dX0_workOut_22 : decode cX0_workOut 22 = .ok (.istore_n 3, 1) := by decide +kernel
theorem dX0_workOut_23 : decode cX0_workOut 23 = .ok (.iload_n 3, 1) := by decide +kernel
theorem dX0_workOut_24 : decode cX0_workOut 24 = .ok (.aload_n 0, 1) := by decide +kernel
theorem dX0_workOut_25 : decode cX0_workOut 25 = .ok (.getfield 18, 3) := by decide +kernel
theorem dX0_workOut_28 : decode cX0_workOut 28 = .ok (.if_icmp .ge 35, 3) := by decide +kernel
theorem dX0_workOut_31 : decode cX0_workOut 31 = .ok (.aload_n 0, 1) := by decide +kernel
theorem dX0_workOut_32 : decode cX0_workOut 32 = .ok (.getfield 44, 3) := by decide +kernel
theorem dX0_workOut_35 : decode cX0_workOut 35 = .ok (.iload_n 1, 1) := by decide +kernel
theorem dX0_workOut_36 : decode cX0_workOut 36 = .ok (.aaload, 1) := by decide +kernel
theorem dX0_workOut_37 : decode cX0_workOut 37 = .ok (.iload_n 3, 1) := by decide +kernel
theorem dX0_workOut_38 : decode cX0_workOut 38 = .ok (.aload_n 0, 1) := by decide +kernel
theorem dX0_workOut_39 : decode cX0_workOut 39 = .ok (.iload_n 2, 1) := by decide +kernel
theorem dX0_workOut_40 : decode cX0_workOut 40 = .ok (.aload_n 0, 1) := by decide +kernel
theorem dX0_workOut_41 : decode cX0_workOut 41 = .ok (.getfield 36, 3) := by decide +kernel
theorem dX0_workOut_44 : decode cX0_workOut 44 = .ok (.iload_n 1, 1) := by decide +kernel
theorem dX0_workOut_45 : decode cX0_workOut 45 = .ok (.iaload, 1) := by decide +kernel
theorem dX0_workOut_46 : decode cX0_workOut 46 = .ok (.aload_n 0, 1) := by decide +kernel
theorem dX0_workOut_47 : decode cX0_workOut 47 = .ok (.getfield 39, 3) := by decide +kernel
theorem dX0_workOut_50 : decode cX0_workOut 50 = .ok (.iload_n 1, 1) := by decide +kernel
theorem dX0_workOut_51 : decode cX0_workOut 51 = .ok (.iaload, 1) := by decide +kernel
theorem dX0_workOut_52 : decode cX0_workOut 52 = .ok (.iload_n 3, 1) := by decide +kernel
theorem dX0_workOut_53 : decode cX0_workOut 53 = .ok (.invokevirtual 239, 3) := by decide +kernel
theorem dX0_workOut_56 : decode cX0_workOut 56 = .ok (.lastore, 1) := by decide +kernel
theorem dX0_workOut_57 : decode cX0_workOut 57 = .ok (.iinc 3 1, 3) := by decide +kernel
theorem dX0_workOut_60 : decode cX0_workOut 60 = .ok (.goto (-37), 3) := by decide +kernel
theorem dX0_workOut_63 : decode cX0_workOut 63 = .ok (.return_, 1) := by decide +kernel
theorem dX0_rowBy_0 : decode cX0_rowBy 0 = .ok (.iload_n 1, 1) := by decide +kernel
theorem dX0_rowBy_1 : decode cX0_rowBy 1 = .ok (.tableswitch 98 0 3 #[31, 39, 58, 78], 31) := by decide +kernel
theorem dX0_rowBy_32 : decode cX0_rowBy 32 = .ok (.aload_n 0, 1) := by decide +kernel
theorem dX0_rowBy_33 : decode cX0_rowBy 33 = .ok (.iload_n 2, 1) := by decide +kernel
theorem dX0_rowBy_34 : decode cX0_rowBy 34 = .ok (.iload 4, 2) := by decide +kernel
theorem dX0_rowBy_36 : decode cX0_rowBy 36 = .ok (.invokevirtual 156, 3) := by decide +kernel
theorem dX0_rowBy_39 : decode cX0_rowBy 39 = .ok (.lreturn, 1) := by decide +kernel
theorem dX0_rowBy_40 : decode cX0_rowBy 40 = .ok (.aload_n 0, 1) := by decide +kernel
theorem dX0_rowBy_41 : decode cX0_rowBy 41 = .ok (.getfield 44, 3) := by decide +kernel
theorem dX0_rowBy_44 : decode cX0_rowBy 44 = .ok (.iload_n 2, 1) := by decide +kernel
theorem dX0_rowBy_45 : decode cX0_rowBy 45 = .ok (.aaload, 1) := by decide +kernel
theorem dX0_rowBy_46 : decode cX0_rowBy 46 = .ok (.iload 4, 2) := by decide +kernel
theorem dX0_rowBy_48 : decode cX0_rowBy 48 = .ok (.laload, 1) := by decide +kernel
theorem dX0_rowBy_49 : decode cX0_rowBy 49 = .ok (.ldc2_w 231, 3) := by decide +kernel
theorem dX0_rowBy_52 : decode cX0_rowBy 52 = .ok (.lxor, 1) := by decide +kernel
theorem dX0_rowBy_53 : decode cX0_rowBy 53 = .ok (.aload_n 0, 1) := by decide +kernel
theorem dX0_rowBy_54 : decode cX0_rowBy 54 = .ok (.getfield 22, 3) := by decide +kernel
theorem dX0_rowBy_57 : decode cX0_rowBy 57 = .ok (.land, 1) := by decide +kernel
theorem dX0_rowBy_58 : decode cX0_rowBy 58 = .ok (.lreturn, 1) := by decide +kernel
theorem dX0_rowBy_59 : decode cX0_rowBy 59 = .ok (.aload_n 0, 1) := by decide +kernel
theorem dX0_rowBy_60 : decode cX0_rowBy 60 = .ok (.getfield 44, 3) := by decide +kernel
theorem dX0_rowBy_63 : decode cX0_rowBy 63 = .ok (.iload_n 2, 1) := by decide +kernel
theorem dX0_rowBy_64 : decode cX0_rowBy 64 = .ok (.aaload, 1) := by decide +kernel
theorem dX0_rowBy_65 : decode cX0_rowBy 65 = .ok (.iload 4, 2) := by decide +kernel
theorem dX0_rowBy_67 : decode cX0_rowBy 67 = .ok (.laload, 1) := by decide +kernel
theorem dX0_rowBy_68 : decode cX0_rowBy 68 = .ok (.aload_n 0, 1) := by decide +kernel
theorem dX0_rowBy_69 : decode cX0_rowBy 69 = .ok (.getfield 44, 3) := by decide +kernel
theorem dX0_rowBy_72 : decode cX0_rowBy 72 = .ok (.iload_n 3, 1) := by decide +kernel
theorem dX0_rowBy_73 : decode cX0_rowBy 73 = .ok (.aaload, 1) := by decide +kernel
theorem dX0_rowBy_74 : decode cX0_rowBy 74 = .ok (.iload 4, 2) := by decide +kernel
theorem dX0_rowBy_76 : decode cX0_rowBy 76 = .ok (.laload, 1) := by decide +kernel
theorem dX0_rowBy_77 : decode cX0_rowBy 77 = .ok (.land, 1) := by decide +kernel
theorem dX0_rowBy_78 : decode cX0_rowBy 78 = .ok (.lreturn, 1) := by decide +kernel
theorem dX0_rowBy_79 : decode cX0_rowBy 79 = .ok (.aload_n 0, 1) := by decide +kernel
theorem dX0_rowBy_80 : decode cX0_rowBy 80 = .ok (.getfield 44, 3) := by decide +kernel
theorem dX0_rowBy_83 : decode cX0_rowBy 83 = .ok (.iload_n 2, 1) := by decide +kernel
theorem dX0_rowBy_84 : decode cX0_rowBy 84 = .ok (.aaload, 1) := by decide +kernel
theorem dX0_rowBy_85 : decode cX0_rowBy 85 = .ok (.iload 4, 2) := by decide +kernel
theorem dX0_rowBy_87 : decode cX0_rowBy 87 = .ok (.laload, 1) := by decide +kernel
theorem dX0_rowBy_88 : decode cX0_rowBy 88 = .ok (.aload_n 0, 1) := by decide +kernel
theorem dX0_rowBy_89 : decode cX0_rowBy 89 = .ok (.getfield 44, 3) := by decide +kernel
theorem dX0_rowBy_92 : decode cX0_rowBy 92 = .ok (.iload_n 3, 1) := by decide +kernel
theorem dX0_rowBy_93 : decode cX0_rowBy 93 = .ok (.aaload, 1) := by decide +kernel
theorem dX0_rowBy_94 : decode cX0_rowBy 94 = .ok (.iload 4, 2) := by decide +kernel
theorem dX0_rowBy_96 : decode cX0_rowBy 96 = .ok (.laload, 1) := by decide +kernel
theorem dX0_rowBy_97 : decode cX0_rowBy 97 = .ok (.lor, 1) := by decide +kernel
theorem dX0_rowBy_98 : decode cX0_rowBy 98 = .ok (.lreturn, 1) := by decide +kernel
theorem dX0_rowBy_99 : decode cX0_rowBy 99 = .ok (.aload_n 0, 1) := by decide +kernel
theorem dX0_rowBy_100 : decode cX0_rowBy 100 = .ok (.iload_n 2, 1) := by decide +kernel
theorem dX0_rowBy_101 : decode cX0_rowBy 101 = .ok (.iload_n 3, 1) := by decide +kernel
theorem dX0_rowBy_102 : decode cX0_rowBy 102 = .ok (.iload 4, 2) := by decide +kernel
theorem dX0_rowBy_104 : decode cX0_rowBy 104 = .ok (.invokevirtual 243, 3) := by decide +kernel
theorem dX0_rowBy_107 : decode cX0_rowBy 107 = .ok (.lreturn, 1) := by decide +kernel
theorem dX0_rowThrough_0 : decode cX0_rowThrough 0 = .ok (.lconst 0, 1) := by decide +kernel
theorem dX0_rowThrough_1 : decode cX0_rowThrough 1 = .ok (.lstore 4, 2) := by decide +kernel
theorem dX0_rowThrough_3 : decode cX0_rowThrough 3 = .ok (.iconst 0, 1) := by decide +kernel
theorem dX0_rowThrough_4 : decode cX0_rowThrough 4 = .ok (.istore 6, 2) := by decide +kernel
theorem dX0_rowThrough_6 : decode cX0_rowThrough 6 = .ok (.iload 6, 2) := by decide +kernel
theorem dX0_rowThrough_8 : decode cX0_rowThrough 8 = .ok (.aload_n 0, 1) := by decide +kernel
theorem dX0_rowThrough_9 : decode cX0_rowThrough 9 = .ok (.getfield 18, 3) := by decide +kernel
theorem dX0_rowThrough_12 : decode cX0_rowThrough 12 = .ok (.if_icmp .ge 34, 3) := by decide +kernel
theorem dX0_rowThrough_15 : decode cX0_rowThrough 15 = .ok (.aload_n 0, 1) := by decide +kernel
theorem dX0_rowThrough_16 : decode cX0_rowThrough 16 = .ok (.iload_n 1, 1) := by decide +kernel
theorem dX0_rowThrough_17 : decode cX0_rowThrough 17 = .ok (.iload_n 3, 1) := by decide +kernel
theorem dX0_rowThrough_18 : decode cX0_rowThrough 18 = .ok (.iload 6, 2) := by decide +kernel
theorem dX0_rowThrough_20 : decode cX0_rowThrough 20 = .ok (.invokevirtual 119, 3) := by decide +kernel
theorem dX0_rowThrough_23 : decode cX0_rowThrough 23 = .ok (.ifCond .eq 17, 3) := by decide +kernel
theorem dX0_rowThrough_26 : decode cX0_rowThrough 26 = .ok (.lload 4, 2) := by decide +kernel
theorem dX0_rowThrough_28 : decode cX0_rowThrough 28 = .ok (.aload_n 0, 1) := by decide +kernel
theorem dX0_rowThrough_29 : decode cX0_rowThrough 29 = .ok (.getfield 44, 3) := by decide +kernel
theorem dX0_rowThrough_32 : decode cX0_rowThrough 32 = .ok (.iload_n 2, 1) := by decide +kernel
theorem dX0_rowThrough_33 : decode cX0_rowThrough 33 = .ok (.aaload, 1) := by decide +kernel
theorem dX0_rowThrough_34 : decode cX0_rowThrough 34 = .ok (.iload 6, 2) := by decide +kernel
theorem dX0_rowThrough_36 : decode cX0_rowThrough 36 = .ok (.laload, 1) := by decide +kernel
theorem dX0_rowThrough_37 : decode cX0_rowThrough 37 = .ok (.lor, 1) := by decide +kernel
theorem dX0_rowThrough_38 : decode cX0_rowThrough 38 = .ok (.lstore 4, 2) := by decide +kernel
theorem dX0_rowThrough_40 : decode cX0_rowThrough 40 = .ok (.iinc 6 1, 3) := by decide +kernel
theorem dX0_rowThrough_43 : decode cX0_rowThrough 43 = .ok (.goto (-37), 3) := by decide +kernel
theorem dX0_rowThrough_46 : decode cX0_rowThrough 46 = .ok (.lload 4, 2) := by decide +kernel
theorem dX0_rowThrough_48 : decode cX0_rowThrough 48 = .ok (.lreturn, 1) := by decide +kernel
theorem dX0_workOutFar_0 : decode cX0_workOutFar 0 = .ok (.aload_n 0, 1) := by decide +kernel
theorem dX0_workOutFar_1 : decode cX0_workOutFar 1 = .ok (.getfield 44, 3) := by decide +kernel
theorem dX0_workOutFar_4 : decode cX0_workOutFar 4 = .ok (.aload_n 0, 1) := by decide +kernel
theorem dX0_workOutFar_5 : decode cX0_workOutFar 5 = .ok (.getfield 36, 3) := by decide +kernel
theorem dX0_workOutFar_8 : decode cX0_workOutFar 8 = .ok (.iload_n 1, 1) := by decide +kernel
theorem dX0_workOutFar_9 : decode cX0_workOutFar 9 = .ok (.iaload, 1) := by decide +kernel
theorem dX0_workOutFar_10 : decode cX0_workOutFar 10 = .ok (.aaload, 1) := by decide +kernel
theorem dX0_workOutFar_11 : decode cX0_workOutFar 11 = .ok (.iconst 0, 1) := by decide +kernel
theorem dX0_workOutFar_12 : decode cX0_workOutFar 12 = .ok (.aload_n 0, 1) := by decide +kernel
theorem dX0_workOutFar_13 : decode cX0_workOutFar 13 = .ok (.getfield 44, 3) := by decide +kernel
theorem dX0_workOutFar_16 : decode cX0_workOutFar 16 = .ok (.iload_n 1, 1) := by decide +kernel
theorem dX0_workOutFar_17 : decode cX0_workOutFar 17 = .ok (.aaload, 1) := by decide +kernel
theorem dX0_workOutFar_18 : decode cX0_workOutFar 18 = .ok (.iconst 0, 1) := by decide +kernel
theorem dX0_workOutFar_19 : decode cX0_workOutFar 19 = .ok (.aload_n 0, 1) := by decide +kernel
theorem dX0_workOutFar_20 : decode cX0_workOutFar 20 = .ok (.getfield 18, 3) := by decide +kernel
theorem dX0_workOutFar_23 : decode cX0_workOutFar 23 = .ok (.invokestatic 247, 3) := by decide +kernel
theorem dX0_workOutFar_26 : decode cX0_workOutFar 26 = .ok (.iconst 0, 1) := by decide +kernel
theorem dX0_workOutFar_27 : decode cX0_workOutFar 27 = .ok (.istore_n 2, 1) := by decide +kernel
theorem dX0_workOutFar_28 : decode cX0_workOutFar 28 = .ok (.iload_n 2, 1) := by decide +kernel
theorem dX0_workOutFar_29 : decode cX0_workOutFar 29 = .ok (.aload_n 0, 1) := by decide +kernel
theorem dX0_workOutFar_30 : decode cX0_workOutFar 30 = .ok (.getfield 18, 3) := by decide +kernel
theorem dX0_workOutFar_33 : decode cX0_workOutFar 33 = .ok (.if_icmp .ge 54, 3) := by decide +kernel
theorem dX0_workOutFar_36 : decode cX0_workOutFar 36 = .ok (.iconst 0, 1) := by decide +kernel
theorem dX0_workOutFar_37 : decode cX0_workOutFar 37 = .ok (.istore_n 3, 1) := by decide +kernel
theorem dX0_workOutFar_38 : decode cX0_workOutFar 38 = .ok (.iload_n 3, 1) := by decide +kernel
theorem dX0_workOutFar_39 : decode cX0_workOutFar 39 = .ok (.aload_n 0, 1) := by decide +kernel
theorem dX0_workOutFar_40 : decode cX0_workOutFar 40 = .ok (.getfield 18, 3) := by decide +kernel
theorem dX0_workOutFar_43 : decode cX0_workOutFar 43 = .ok (.if_icmp .ge 38, 3) := by decide +kernel
theorem dX0_workOutFar_46 : decode cX0_workOutFar 46 = .ok (.aload_n 0, 1) := by decide +kernel
theorem dX0_workOutFar_47 : decode cX0_workOutFar 47 = .ok (.iload_n 1, 1) := by decide +kernel
theorem dX0_workOutFar_48 : decode cX0_workOutFar 48 = .ok (.iload_n 3, 1) := by decide +kernel
theorem dX0_workOutFar_49 : decode cX0_workOutFar 49 = .ok (.iload_n 2, 1) := by decide +kernel
theorem dX0_workOutFar_50 : decode cX0_workOutFar 50 = .ok (.invokevirtual 119, 3) := by decide +kernel
theorem dX0_workOutFar_53 : decode cX0_workOutFar 53 = .ok (.ifCond .eq 22, 3) := by decide +kernel
theorem dX0_workOutFar_56 : decode cX0_workOutFar 56 = .ok (.aload_n 0, 1) := by decide +kernel
theorem dX0_workOutFar_57 : decode cX0_workOutFar 57 = .ok (.getfield 44, 3) := by decide +kernel
theorem dX0_workOutFar_60 : decode cX0_workOutFar 60 = .ok (.iload_n 1, 1) := by decide +kernel
theorem dX0_workOutFar_61 : decode cX0_workOutFar 61 = .ok (.aaload, 1) := by decide +kernel
theorem dX0_workOutFar_62 : decode cX0_workOutFar 62 = .ok (.iload_n 3, 1) := by decide +kernel
theorem dX0_workOutFar_63 : decode cX0_workOutFar 63 = .ok (.dup2, 1) := by decide +kernel
theorem dX0_workOutFar_64 : decode cX0_workOutFar 64 = .ok (.laload, 1) := by decide +kernel
theorem dX0_workOutFar_65 : decode cX0_workOutFar 65 = .ok (.aload_n 0, 1) := by decide +kernel
theorem dX0_workOutFar_66 : decode cX0_workOutFar 66 = .ok (.getfield 44, 3) := by decide +kernel
theorem dX0_workOutFar_69 : decode cX0_workOutFar 69 = .ok (.iload_n 1, 1) := by decide +kernel
theorem dX0_workOutFar_70 : decode cX0_workOutFar 70 = .ok (.aaload, 1) := by decide +kernel
theorem dX0_workOutFar_71 : decode cX0_workOutFar 71 = .ok (.iload_n 2, 1) := by decide +kernel
theorem dX0_workOutFar_72 : decode cX0_workOutFar 72 = .ok (.laload, 1) := by decide +kernel
theorem dX0_workOutFar_73 : decode cX0_workOutFar 73 = .ok (.lor, 1) := by decide +kernel
theorem dX0_workOutFar_74 : decode cX0_workOutFar 74 = .ok (.lastore, 1) := by decide +kernel
theorem dX0_workOutFar_75 : decode cX0_workOutFar 75 = .ok (.iinc 3 1, 3) := by decide +kernel
theorem dX0_workOutFar_78 : decode cX0_workOutFar 78 = .ok (.goto (-40), 3) := by decide +kernel
theorem dX0_workOutFar_81 : decode cX0_workOutFar 81 = .ok (.iinc 2 1, 3) := by decide +kernel
theorem dX0_workOutFar_84 : decode cX0_workOutFar 84 = .ok (.goto (-56), 3) := by decide +kernel
theorem dX0_workOutFar_87 : decode cX0_workOutFar 87 = .ok (.return_, 1) := by decide +kernel
theorem dX0_measureSteps_0 : decode cX0_measureSteps 0 = .ok (.aload_n 0, 1) := by decide +kernel
theorem dX0_measureSteps_1 : decode cX0_measureSteps 1 = .ok (.getfield 53, 3) := by decide +kernel
theorem dX0_measureSteps_4 : decode cX0_measureSteps 4 = .ok (.iconst (-1), 1) := by decide +kernel
theorem dX0_measureSteps_5 : decode cX0_measureSteps 5 = .ok (.invokestatic 65, 3) := by decide +kernel
theorem dX0_measureSteps_8 : decode cX0_measureSteps 8 = .ok (.aload_n 0, 1) := by decide +kernel
theorem dX0_measureSteps_9 : decode cX0_measureSteps 9 = .ok (.getfield 53, 3) := by decide +kernel
theorem dX0_measureSteps_12 : decode cX0_measureSteps 12 = .ok (.iload_n 2, 1) := by decide +kernel
theorem dX0_measureSteps_13 : decode cX0_measureSteps 13 = .ok (.iconst 0, 1) := by decide +kernel
theorem dX0_measureSteps_14 : decode cX0_measureSteps 14 = .ok (.iastore, 1) := by decide +kernel
theorem dX0_measureSteps_15 : decode cX0_measureSteps 15 = .ok (.iload_n 2, 1) := by decide +kernel
theorem dX0_measureSteps_16 : decode cX0_measureSteps 16 = .ok (.invokestatic 206, 3) := by decide +kernel
theorem dX0_measureSteps_19 : decode cX0_measureSteps 19 = .ok (.lstore_n 3, 1) := by decide +kernel
theorem dX0_measureSteps_20 : decode cX0_measureSteps 20 = .ok (.iconst 1, 1) := by decide +kernel
theorem dX0_measureSteps_21 : decode cX0_measureSteps 21 = .ok (.istore 5, 2) := by decide +kernel
theorem dX0_measureSteps_23 : decode cX0_measureSteps 23 = .ok (.iload 5, 2) := by decide +kernel
theorem dX0_measureSteps_25 : decode cX0_measureSteps 25 = .ok (.aload_n 0, 1) := by decide +kernel
theorem dX0_measureSteps_26 : decode cX0_measureSteps 26 = .ok (.getfield 18, 3) := by decide +kernel
theorem dX0_measureSteps_29 : decode cX0_measureSteps 29 = .ok (.if_icmp .ge 85, 3) := by decide +kernel
theorem dX0_measureSteps_32 : decode cX0_measureSteps 32 = .ok (.lload_n 3, 1) := by decide +kernel
theorem dX0_measureSteps_33 : decode cX0_measureSteps 33 = .ok (.lstore 6, 2) := by decide +kernel
theorem dX0_measureSteps_35 : decode cX0_measureSteps 35 = .ok (.iconst 0, 1) := by decide +kernel
theorem dX0_measureSteps_36 : decode cX0_measureSteps 36 = .ok (.istore 8, 2) := by decide +kernel
theorem dX0_measureSteps_38 : decode cX0_measureSteps 38 = .ok (.iload 8, 2) := by decide +kernel
theorem dX0_measureSteps_40 : decode cX0_measureSteps 40 = .ok (.aload_n 0, 1) := by decide +kernel
theorem dX0_measureSteps_41 : decode cX0_measureSteps 41 = .ok (.getfield 18, 3) := by decide +kernel
theorem dX0_measureSteps_44 : decode cX0_measureSteps 44 = .ok (.if_icmp .ge 54, 3) := by decide +kernel
theorem dX0_measureSteps_47 : decode cX0_measureSteps 47 = .ok (.aload_n 0, 1) := by decide +kernel
theorem dX0_measureSteps_48 : decode cX0_measureSteps 48 = .ok (.getfield 53, 3) := by decide +kernel
theorem dX0_measureSteps_51 : decode cX0_measureSteps 51 = .ok (.iload 8, 2) := by decide +kernel
theorem dX0_measureSteps_53 : decode cX0_measureSteps 53 = .ok (.iaload, 1) := by decide +kernel
theorem dX0_measureSteps_54 : decode cX0_measureSteps 54 = .ok (.iconst (-1), 1) := by decide +kernel
theorem dX0_measureSteps_55 : decode cX0_measureSteps 55 = .ok (.if_icmp .ne 37, 3) := by decide +kernel
theorem dX0_measureSteps_58 : decode cX0_measureSteps 58 = .ok (.aload_n 0, 1) := by decide +kernel
theorem dX0_measureSteps_59 : decode cX0_measureSteps 59 = .ok (.getfield 44, 3) := by decide +kernel
theorem dX0_measureSteps_62 : decode cX0_measureSteps 62 = .ok (.iload_n 1, 1) := by decide +kernel
theorem dX0_measureSteps_63 : decode cX0_measureSteps 63 = .ok (.aaload, 1) := by decide +kernel
theorem dX0_measureSteps_64 : decode cX0_measureSteps 64 = .ok (.iload 8, 2) := by decide +kernel
theorem dX0_measureSteps_66 : decode cX0_measureSteps 66 = .ok (.laload, 1) := by decide +kernel
theorem dX0_measureSteps_67 : decode cX0_measureSteps 67 = .ok (.lload 6, 2) := by decide +kernel
theorem dX0_measureSteps_69 : decode cX0_measureSteps 69 = .ok (.land, 1) := by decide +kernel
theorem dX0_measureSteps_70 : decode cX0_measureSteps 70 = .ok (.lconst 0, 1) := by decide +kernel
theorem dX0_measureSteps_71 : decode cX0_measureSteps 71 = .ok (.lcmp, 1) := by decide +kernel
theorem dX0_measureSteps_72 : decode cX0_measureSteps 72 = .ok (.ifCond .eq 20, 3) := by decide +kernel
theorem dX0_measureSteps_75 : decode cX0_measureSteps 75 = .ok (.aload_n 0, 1) := by decide +kernel
theorem dX0_measureSteps_76 : decode cX0_measureSteps 76 = .ok (.getfield 53, 3) := by decide +kernel
theorem dX0_measureSteps_79 : decode cX0_measureSteps 79 = .ok (.iload 8, 2) := by decide +kernel
theorem dX0_measureSteps_81 : decode cX0_measureSteps 81 = .ok (.iload 5, 2) := by decide +kernel
theorem dX0_measureSteps_83 : decode cX0_measureSteps 83 = .ok (.iastore, 1) := by decide +kernel
theorem dX0_measureSteps_84 : decode cX0_measureSteps 84 = .ok (.lload_n 3, 1) := by decide +kernel
theorem dX0_measureSteps_85 : decode cX0_measureSteps 85 = .ok (.iload 8, 2) := by decide +kernel
theorem dX0_measureSteps_87 : decode cX0_measureSteps 87 = .ok (.invokestatic 206, 3) := by decide +kernel
theorem dX0_measureSteps_90 : decode cX0_measureSteps 90 = .ok (.lor, 1) := by decide +kernel
theorem dX0_measureSteps_91 : decode cX0_measureSteps 91 = .ok (.lstore_n 3, 1) := by decide +kernel
theorem dX0_measureSteps_92 : decode cX0_measureSteps 92 = .ok (.iinc 8 1, 3) := by decide +kernel
theorem dX0_measureSteps_95 : decode cX0_measureSteps 95 = .ok (.goto (-57), 3) := by decide +kernel
theorem dX0_measureSteps_98 : decode cX0_measureSteps 98 = .ok (.lload_n 3, 1) := by decide +kernel
theorem dX0_measureSteps_99 : decode cX0_measureSteps 99 = .ok (.lload 6, 2) := by decide +kernel
theorem dX0_measureSteps_101 : decode cX0_measureSteps 101 = .ok (.lcmp, 1) := by decide +kernel
theorem dX0_measureSteps_102 : decode cX0_measureSteps 102 = .ok (.ifCond .ne 6, 3) := by decide +kernel
theorem dX0_measureSteps_105 : decode cX0_measureSteps 105 = .ok (.goto 9, 3) := by decide +kernel
theorem dX0_measureSteps_108 : decode cX0_measureSteps 108 = .ok (.iinc 5 1, 3) := by decide +kernel
theorem dX0_measureSteps_111 : decode cX0_measureSteps 111 = .ok (.goto (-88), 3) := by decide +kernel
theorem dX0_measureSteps_114 : decode cX0_measureSteps 114 = .ok (.return_, 1) := by decide +kernel
theorem dX0_stepNearer_0 : decode cX0_stepNearer 0 = .ok (.iconst 0, 1) := by decide +kernel
theorem dX0_stepNearer_1 : decode cX0_stepNearer 1 = .ok (.istore_n 3, 1) := by decide +kernel
theorem dX0_stepNearer_2 : decode cX0_stepNearer 2 = .ok (.iload_n 3, 1) := by decide +kernel
theorem dX0_stepNearer_3 : decode cX0_stepNearer 3 = .ok (.aload_n 0, 1) := by decide +kernel
theorem dX0_stepNearer_4 : decode cX0_stepNearer 4 = .ok (.getfield 18, 3) := by decide +kernel
theorem dX0_stepNearer_7 : decode cX0_stepNearer 7 = .ok (.if_icmp .ge 38, 3) := by decide +kernel
theorem dX0_stepNearer_10 : decode cX0_stepNearer 10 = .ok (.aload_n 0, 1) := by decide +kernel
theorem dX0_stepNearer_11 : decode cX0_stepNearer 11 = .ok (.iload_n 1, 1) := by decide +kernel
theorem dX0_stepNearer_12 : decode cX0_stepNearer 12 = .ok (.iload_n 2, 1) := by decide +kernel
theorem dX0_stepNearer_13 : decode cX0_stepNearer 13 = .ok (.iload_n 3, 1) := by decide +kernel
theorem dX0_stepNearer_14 : decode cX0_stepNearer 14 = .ok (.invokevirtual 119, 3) := by decide +kernel
theorem dX0_stepNearer_17 : decode cX0_stepNearer 17 = .ok (.ifCond .eq 22, 3) := by decide +kernel
theorem dX0_stepNearer_20 : decode cX0_stepNearer 20 = .ok (.aload_n 0, 1) := by decide +kernel
theorem dX0_stepNearer_21 : decode cX0_stepNearer 21 = .ok (.getfield 53, 3) := by decide +kernel
theorem dX0_stepNearer_24 : decode cX0_stepNearer 24 = .ok (.iload_n 3, 1) := by decide +kernel
theorem dX0_stepNearer_25 : decode cX0_stepNearer 25 = .ok (.iaload, 1) := by decide +kernel
theorem dX0_stepNearer_26 : decode cX0_stepNearer 26 = .ok (.aload_n 0, 1) := by decide +kernel
theorem dX0_stepNearer_27 : decode cX0_stepNearer 27 = .ok (.getfield 53, 3) := by decide +kernel
theorem dX0_stepNearer_30 : decode cX0_stepNearer 30 = .ok (.iload_n 2, 1) := by decide +kernel
theorem dX0_stepNearer_31 : decode cX0_stepNearer 31 = .ok (.iaload, 1) := by decide +kernel
theorem dX0_stepNearer_32 : decode cX0_stepNearer 32 = .ok (.iconst 1, 1) := by decide +kernel
theorem dX0_stepNearer_33 : decode cX0_stepNearer 33 = .ok (.isub, 1) := by decide +kernel
theorem dX0_stepNearer_34 : decode cX0_stepNearer 34 = .ok (.if_icmp .ne 5, 3) := by decide +kernel
theorem dX0_stepNearer_37 : decode cX0_stepNearer 37 = .ok (.iload_n 3, 1) := by decide +kernel
theorem dX0_stepNearer_38 : decode cX0_stepNearer 38 = .ok (.ireturn, 1) := by decide +kernel
theorem dX0_stepNearer_39 : decode cX0_stepNearer 39 = .ok (.iinc 3 1, 3) := by decide +kernel
theorem dX0_stepNearer_42 : decode cX0_stepNearer 42 = .ok (.goto (-40), 3) := by decide +kernel
theorem dX0_stepNearer_45 : decode cX0_stepNearer 45 = .ok (.iload_n 2, 1) := by decide +kernel
theorem dX0_stepNearer_46 : decode cX0_stepNearer 46 = .ok (.ireturn, 1) := by decide +kernel
end
section
theorem dX1_init_0 : decode cX1_init 0 = .ok (.aload_n 0, 1) := by decide +kernel
theorem dX1_init_1 : decode cX1_init 1 = .ok (.invokespecial 1, 3) := by decide +kernel
theorem dX1_init_4 : decode cX1_init 4 = .ok (.aload_n 0, 1) := by decide +kernel
theorem dX1_init_5 : decode cX1_init 5 = .ok (.bipush 40, 2) := by decide +kernel
theorem dX1_init_7 : decode cX1_init 7 = .ok (.newarray .int, 2) := by decide +kernel
theorem dX1_init_9 : decode cX1_init 9 = .ok (.putfield 7, 3) := by decide +kernel
theorem dX1_init_12 : decode cX1_init 12 = .ok (.aload_n 0, 1) := by decide +kernel
theorem dX1_init_13 : decode cX1_init 13 = .ok (.bipush 12, 2) := by decide +kernel
theorem dX1_init_15 : decode cX1_init 15 = .ok (.newarray .int, 2) := by decide +kernel
theorem dX1_init_17 : decode cX1_init 17 = .ok (.putfield 13, 3) := by decide +kernel
theorem dX1_init_20 : decode cX1_init 20 = .ok (.aload_n 0, 1) := by decide +kernel
theorem dX1_init_21 : decode cX1_init 21 = .ok (.bipush 12, 2) := by decide +kernel
theorem dX1_init_23 : decode cX1_init 23 = .ok (.newarray .int, 2) := by decide +kernel
theorem dX1_init_25 : decode cX1_init 25 = .ok (.putfield 16, 3) := by decide +kernel
theorem dX1_init_28 : decode cX1_init 28 = .ok (.aload_n 0, 1) := by decide +kernel
theorem dX1_init_29 : decode cX1_init 29 = .ok (.bipush 12, 2) := by decide +kernel
theorem dX1_init_31 : decode cX1_init 31 = .ok (.newarray .int, 2) := by decide +kernel
theorem dX1_init_33 : decode cX1_init 33 = .ok (.putfield 19, 3) := by decide +kernel
theorem dX1_init_36 : decode cX1_init 36 = .ok (.aload_n 0, 1) := by decide +kernel
theorem dX1_init_37 : decode cX1_init 37 = .ok (.sipush 19200, 3) := by decide +kernel
theorem dX1_init_40 : decode cX1_init 40 = .ok (.newarray .boolean, 2) := by decide +kernel
theorem dX1_init_42 : decode cX1_init 42 = .ok (.putfield 22, 3) := by decide +kernel
theorem dX1_init_45 : decode cX1_init 45 = .ok (.aload_n 0, 1) := by decide +kernel
theorem dX1_init_46 : decode cX1_init 46 = .ok (.iconst 4, 1) := by decide +kernel
theorem dX1_init_47 : decode cX1_init 47 = .ok (.newarray .int, 2) := by decide +kernel
theorem dX1_init_49 : decode cX1_init 49 = .ok (.putfield 26, 3) := by decide +kernel
theorem dX1_init_52 : decode cX1_init 52 = .ok (.aload_n 0, 1) := by decide +kernel
theorem dX1_init_53 : decode cX1_init 53 = .ok (.iconst 4, 1) := by decide +kernel
theorem dX1_init_54 : decode cX1_init 54 = .ok (.newarray .int, 2) := by decide +kernel
theorem dX1_init_56 : decode cX1_init 56 = .ok (.putfield 29, 3) := by decide +kernel
theorem dX1_init_59 : decode cX1_init 59 = .ok (.aload_n 0, 1) := by decide +kernel
theorem dX1_init_60 : decode cX1_init 60 = .ok (.sipush 1600, 3) := by decide +kernel
theorem dX1_init_63 : decode cX1_init 63 = .ok (.newarray .int, 2) := by decide +kernel
theorem dX1_init_65 : decode cX1_init 65 = .ok (.putfield 32, 3) := by decide +kernel
theorem dX1_init_68 : decode cX1_init 68 = .ok (.aload_n 0, 1) := by decide +kernel
theorem dX1_init_69 : decode cX1_init 69 = .ok (.sipush 1600, 3) := by decide +kernel
theorem dX1_init_72 : decode cX1_init 72 = .ok (.newarray .boolean, 2) := by decide +kernel
theorem dX1_init_74 : decode cX1_init 74 = .ok (.putfield 35, 3) := by decide +kernel
theorem dX1_init_77 : decode cX1_init 77 = .ok (.aload_n 0, 1) := by decide +kernel
theorem dX1_init_78 : decode cX1_init 78 = .ok (.bipush 40, 2) := by decide +kernel
theorem dX1_init_80 : decode cX1_init 80 = .ok (.newarray .int, 2) := by decide +kernel
theorem dX1_init_82 : decode cX1_init 82 = .ok (.putfield 38, 3) := by decide +kernel
theorem dX1_init_85 : decode cX1_init 85 = .ok (.aload_n 0, 1) := by decide +kernel
theorem dX1_init_86 : decode cX1_init 86 = .ok (.iload_n 1, 1) := by decide +kernel
theorem dX1_init_87 : decode cX1_init 87 = .ok (.iconst 1, 1) := by decide +kernel
theorem dX1_init_88 : decode cX1_init 88 = .ok (.if_icmp .ge 7, 3) := by decide +kernel
theorem dX1_init_91 : decode cX1_init 91 = .ok (.iconst 1, 1) := by decide +kernel
theorem dX1_init_92 : decode cX1_init 92 = .ok (.goto 15, 3) := by decide +kernel
theorem dX1_init_95 : decode cX1_init 95 = .ok (.iload_n 1, 1) := by decide +kernel
theorem dX1_init_96 : decode cX1_init 96 = .ok (.bipush 40, 2) := by decide +kernel
theorem dX1_init_98 : decode cX1_init 98 = .ok (.if_icmp .le 8, 3) := by decide +kernel
theorem dX1_init_101 : decode cX1_init 101 = .ok (.bipush 40, 2) := by decide +kernel
theorem dX1_init_103 : decode cX1_init 103 = .ok (.goto 4, 3) := by decide +kernel
theorem dX1_init_106 : decode cX1_init 106 = .ok (.iload_n 1, 1) := by decide +kernel
theorem dX1_init_107 : decode cX1_init 107 = .ok (.putfield 41, 3) := by decide +kernel
theorem dX1_init_110 : decode cX1_init 110 = .ok (.aload_n 0, 1) := by decide +kernel
theorem dX1_init_111 : decode cX1_init 111 = .ok (.invokevirtual 45, 3) := by decide +kernel
theorem dX1_init_114 : decode cX1_init 114 = .ok (.return_, 1) := by decide +kernel
theorem dX1_thrown_0 : decode cX1_thrown 0 = .ok (.aload_n 0, 1) := by decide +kernel
theorem dX1_thrown_1 : decode cX1_thrown 1 = .ok (.getfield 48, 3) := by decide +kernel
theorem dX1_thrown_4 : decode cX1_thrown 4 = .ok (.ireturn, 1) := by decide +kernel
theorem dX1_begin_0 : decode cX1_begin 0 = .ok (.aload_n 0, 1) := by decide +kernel
theorem dX1_begin_1 : decode cX1_begin 1 = .ok (.iconst 0, 1) := by decide +kernel
theorem dX1_begin_2 : decode cX1_begin 2 = .ok (.putfield 51, 3) := by decide +kernel
theorem dX1_begin_5 : decode cX1_begin 5 = .ok (.aload_n 0, 1) := by decide +kernel
theorem dX1_begin_6 : decode cX1_begin 6 = .ok (.iconst 0, 1) := by decide +kernel
theorem dX1_begin_7 : decode cX1_begin 7 = .ok (.putfield 54, 3) := by decide +kernel
theorem dX1_begin_10 : decode cX1_begin 10 = .ok (.iconst 0, 1) := by decide +kernel
theorem dX1_begin_11 : decode cX1_begin 11 = .ok (.istore_n 1, 1) := by decide +kernel
theorem dX1_begin_12 : decode cX1_begin 12 = .ok (.iload_n 1, 1) := by decide +kernel
theorem dX1_begin_13 : decode cX1_begin 13 = .ok (.bipush 40, 2) := by decide +kernel
theorem dX1_begin_15 : decode cX1_begin 15 = .ok (.if_icmp .ge 16, 3) := by decide +kernel
theorem dX1_begin_18 : decode cX1_begin 18 = .ok (.aload_n 0, 1) := by decide +kernel
theorem dX1_begin_19 : decode cX1_begin 19 = .ok (.getfield 7, 3) := by decide +kernel
theorem dX1_begin_22 : decode cX1_begin 22 = .ok (.iload_n 1, 1) := by decide +kernel
theorem dX1_begin_23 : decode cX1_begin 23 = .ok (.iconst 0, 1) := by decide +kernel
theorem dX1_begin_24 : decode cX1_begin 24 = .ok (.iastore, 1) := by decide +kernel
theorem dX1_begin_25 : decode cX1_begin 25 = .ok (.iinc 1 1, 3) := by decide +kernel
theorem dX1_begin_28 : decode cX1_begin 28 = .ok (.goto (-16), 3) := by decide +kernel
theorem dX1_begin_31 : decode cX1_begin 31 = .ok (.iconst 0, 1) := by decide +kernel
theorem dX1_begin_32 : decode cX1_begin 32 = .ok (.istore_n 1, 1) := by decide +kernel
theorem dX1_begin_33 : decode cX1_begin 33 = .ok (.iload_n 1, 1) := by decide +kernel
theorem dX1_begin_34 : decode cX1_begin 34 = .ok (.sipush 1600, 3) := by decide +kernel
theorem dX1_begin_37 : decode cX1_begin 37 = .ok (.if_icmp .ge 16, 3) := by decide +kernel
theorem dX1_begin_40 : decode cX1_begin 40 = .ok (.aload_n 0, 1) := by decide +kernel
theorem dX1_begin_41 : decode cX1_begin 41 = .ok (.getfield 32, 3) := by decide +kernel
theorem dX1_begin_44 : decode cX1_begin 44 = .ok (.iload_n 1, 1) := by decide +kernel
theorem dX1_begin_45 : decode cX1_begin 45 = .ok (.iconst 0, 1) := by decide +kernel
theorem dX1_begin_46 : decode cX1_begin 46 = .ok (.iastore, 1) := by decide +kernel
theorem dX1_begin_47 : decode cX1_begin 47 = .ok (.iinc 1 1, 3) := by decide +kernel
theorem dX1_begin_50 : decode cX1_begin 50 = .ok (.goto (-17), 3) := by decide +kernel
theorem dX1_begin_53 : decode cX1_begin 53 = .ok (.return_, 1) := by decide +kernel
theorem dX1_clear_0 : decode cX1_clear 0 = .ok (.aload_n 0, 1) := by decide +kernel
theorem dX1_clear_1 : decode cX1_clear 1 = .ok (.iconst 0, 1) := by decide +kernel
theorem dX1_clear_2 : decode cX1_clear 2 = .ok (.putfield 48, 3) := by decide +kernel
theorem dX1_clear_5 : decode cX1_clear 5 = .ok (.aload_n 0, 1) := by decide +kernel
theorem dX1_clear_6 : decode cX1_clear 6 = .ok (.getfield 51, 3) := by decide +kernel
theorem dX1_clear_9 : decode cX1_clear 9 = .ok (.istore_n 1, 1) := by decide +kernel
theorem dX1_clear_10 : decode cX1_clear 10 = .ok (.aload_n 0, 1) := by decide +kernel
theorem dX1_clear_11 : decode cX1_clear 11 = .ok (.invokevirtual 45, 3) := by decide +kernel
theorem dX1_clear_14 : decode cX1_clear 14 = .ok (.iload_n 1, 1) := by decide +kernel
theorem dX1_clear_15 : decode cX1_clear 15 = .ok (.ireturn, 1) := by decide +kernel
theorem dX1_isGood_0 : decode cX1_isGood 0 = .ok (.aload_n 0, 1) := by decide +kernel
theorem dX1_isGood_1 : decode cX1_isGood 1 = .ok (.iload_n 1, 1) := by decide +kernel
theorem dX1_isGood_2 : decode cX1_isGood 2 = .ok (.putfield 48, 3) := by decide +kernel
theorem dX1_isGood_5 : decode cX1_isGood 5 = .ok (.iload_n 1, 1) := by decide +kernel
theorem dX1_isGood_6 : decode cX1_isGood 6 = .ok (.ifCond .ne 7, 3) := by decide +kernel
theorem dX1_isGood_9 : decode cX1_isGood 9 = .ok (.iconst 1, 1) := by decide +kernel
theorem dX1_isGood_10 : decode cX1_isGood 10 = .ok (.goto 4, 3) := by decide +kernel
theorem dX1_isGood_13 : decode cX1_isGood 13 = .ok (.iconst 0, 1) := by decide +kernel
theorem dX1_isGood_14 : decode cX1_isGood 14 = .ok (.ireturn, 1) := by decide +kernel
theorem dX1_isIn_0 : decode cX1_isIn 0 = .ok (.iload_n 0, 1) := by decide +kernel
theorem dX1_isIn_1 : decode cX1_isIn 1 = .ok (.iload_n 1, 1) := by decide +kernel
theorem dX1_isIn_2 : decode cX1_isIn 2 = .ok (.if_icmp .lt 12, 3) := by decide +kernel
theorem dX1_isIn_5 : decode cX1_isIn 5 = .ok (.iload_n 0, 1) := by decide +kernel
theorem dX1_isIn_6 : decode cX1_isIn 6 = .ok (.iload_n 2, 1) := by decide +kernel
theorem dX1_isIn_7 : decode cX1_isIn 7 = .ok (.if_icmp .gt 7, 3) := by decide +kernel
theorem dX1_isIn_10 : decode cX1_isIn 10 = .ok (.iconst 1, 1) := by decide +kernel
theorem dX1_isIn_11 : decode cX1_isIn 11 = .ok (.goto 4, 3) := by decide +kernel
theorem dX1_isIn_14 : decode cX1_isIn 14 = .ok (.iconst 0, 1) := by decide +kernel
theorem dX1_isIn_15 : decode cX1_isIn 15 = .ok (.ireturn, 1) := by decide +kernel
theorem dX1_isThing_0 : decode cX1_isThing 0 = .ok (.iload_n 1, 1) := by decide +kernel
theorem dX1_isThing_1 : decode cX1_isThing 1 = .ok (.iconst 0, 1) := by decide +kernel
theorem dX1_isThing_2 : decode cX1_isThing 2 = .ok (.aload_n 0, 1) := by decide +kernel
theorem dX1_isThing_3 : decode cX1_isThing 3 = .ok (.getfield 41, 3) := by decide +kernel
theorem dX1_isThing_6 : decode cX1_isThing 6 = .ok (.iconst 1, 1) := by decide +kernel
theorem dX1_isThing_7 : decode cX1_isThing 7 = .ok (.isub, 1) := by decide +kernel
theorem dX1_isThing_8 : decode cX1_isThing 8 = .ok (.invokestatic 57, 3) := by decide +kernel
theorem dX1_isThing_11 : decode cX1_isThing 11 = .ok (.ireturn, 1) := by decide +kernel
theorem dX1_isRelation_0 : decode cX1_isRelation 0 = .ok (.iload_n 1, 1) := by decide +kernel
theorem dX1_isRelation_1 : decode cX1_isRelation 1 = .ok (.iconst 0, 1) := by decide +kernel
theorem dX1_isRelation_2 : decode cX1_isRelation 2 = .ok (.aload_n 0, 1) := by decide +kernel
theorem dX1_isRelation_3 : decode cX1_isRelation 3 = .ok (.getfield 51, 3) := by decide +kernel
theorem dX1_isRelation_6 : decode cX1_isRelation 6 = .ok (.iconst 1, 1) := by decide +kernel
theorem dX1_isRelation_7 : decode cX1_isRelation 7 = .ok (.isub, 1) := by decide +kernel
theorem dX1_isRelation_8 : decode cX1_isRelation 8 = .ok (.invokestatic 57, 3) := by decide +kernel
theorem dX1_isRelation_11 : decode cX1_isRelation 11 = .ok (.ireturn, 1) := by decide +kernel
theorem dX1_kind_0 : decode cX1_kind 0 = .ok (.aload_n 0, 1) := by decide +kernel
theorem dX1_kind_1 : decode cX1_kind 1 = .ok (.aload_n 0, 1) := by decide +kernel
theorem dX1_kind_2 : decode cX1_kind 2 = .ok (.iload_n 1, 1) := by decide +kernel
theorem dX1_kind_3 : decode cX1_kind 3 = .ok (.invokevirtual 61, 3) := by decide +kernel
theorem dX1_kind_6 : decode cX1_kind 6 = .ok (.ifCond .eq 12, 3) := by decide +kernel
theorem dX1_kind_9 : decode cX1_kind 9 = .ok (.iload_n 2, 1) := by decide +kernel
theorem dX1_kind_10 : decode cX1_kind 10 = .ok (.iconst 0, 1) := by decide +kernel
theorem dX1_kind_11 : decode cX1_kind 11 = .ok (.iconst 3, 1) := by decide +kernel
theorem dX1_kind_12 : decode cX1_kind 12 = .ok (.invokestatic 57, 3) := by decide +kernel
theorem dX1_kind_15 : decode cX1_kind 15 = .ok (.ifCond .ne 7, 3) := by decide +kernel
theorem dX1_kind_18 : decode cX1_kind 18 = .ok (.iconst 1, 1) := by decide +kernel
theorem dX1_kind_19 : decode cX1_kind 19 = .ok (.goto 15, 3) := by decide +kernel
theorem dX1_kind_22 : decode cX1_kind 22 = .ok (.aload_n 0, 1) := by decide +kernel
theorem dX1_kind_23 : decode cX1_kind 23 = .ok (.getfield 51, 3) := by decide +kernel
theorem dX1_kind_26 : decode cX1_kind 26 = .ok (.ifCond .le 7, 3) := by decide +kernel
theorem dX1_kind_29 : decode cX1_kind 29 = .ok (.iconst 2, 1) := by decide +kernel
theorem dX1_kind_30 : decode cX1_kind 30 = .ok (.goto 4, 3) := by decide +kernel
theorem dX1_kind_33 : decode cX1_kind 33 = .ok (.iconst 0, 1) := by decide +kernel
theorem dX1_kind_34 : decode cX1_kind 34 = .ok (.invokevirtual 65, 3) := by decide +kernel
theorem dX1_kind_37 : decode cX1_kind 37 = .ok (.ifCond .ne 5, 3) := by decide +kernel
theorem dX1_kind_40 : decode cX1_kind 40 = .ok (.iconst 0, 1) := by decide +kernel
theorem dX1_kind_41 : decode cX1_kind 41 = .ok (.ireturn, 1) := by decide +kernel
theorem dX1_kind_42 : decode cX1_kind 42 = .ok (.aload_n 0, 1) := by decide +kernel
theorem dX1_kind_43 : decode cX1_kind 43 = .ok (.getfield 7, 3) := by decide +kernel
theorem dX1_kind_46 : decode cX1_kind 46 = .ok (.iload_n 1, 1) := by decide +kernel
theorem dX1_kind_47 : decode cX1_kind 47 = .ok (.iaload, 1) := by decide +kernel
theorem dX1_kind_48 : decode cX1_kind 48 = .ok (.istore_n 3, 1) := by decide +kernel
theorem dX1_kind_49 : decode cX1_kind 49 = .ok (.aload_n 0, 1) := by decide +kernel
theorem dX1_kind_50 : decode cX1_kind 50 = .ok (.getfield 7, 3) := by decide +kernel
theorem dX1_kind_53 : decode cX1_kind 53 = .ok (.iload_n 1, 1) := by decide +kernel
theorem dX1_kind_54 : decode cX1_kind 54 = .ok (.iload_n 2, 1) := by decide +kernel
theorem dX1_kind_55 : decode cX1_kind 55 = .ok (.iastore, 1) := by decide +kernel
theorem dX1_kind_56 : decode cX1_kind 56 = .ok (.iload_n 3, 1) := by decide +kernel
theorem dX1_kind_57 : decode cX1_kind 57 = .ok (.ireturn, 1) := by decide +kernel
theorem dX1_at_0 : decode cX1_at 0 = .ok (.sipush 1600, 3) := by decide +kernel
theorem dX1_at_3 : decode cX1_at 3 = .ok (.iload_n 0, 1) := by decide +kernel
theorem dX1_at_4 : decode cX1_at 4 = .ok (.imul, 1) := by decide +kernel
theorem dX1_at_5 : decode cX1_at 5 = .ok (.bipush 40, 2) := by decide +kernel
theorem dX1_at_7 : decode cX1_at 7 = .ok (.iload_n 1, 1) := by decide +kernel
theorem dX1_at_8 : decode cX1_at 8 = .ok (.imul, 1) := by decide +kernel
theorem dX1_at_9 : decode cX1_at 9 = .ok (.iadd, 1) := by decide +kernel
theorem dX1_at_10 : decode cX1_at 10 = .ok (.iload_n 2, 1) := by decide +kernel
theorem dX1_at_11 : decode cX1_at 11 = .ok (.iadd, 1) := by decide +kernel
theorem dX1_at_12 : decode cX1_at 12 = .ok (.ireturn, 1) := by decide +kernel
theorem dX1_make_0 : decode cX1_make 0 = .ok (.aload_n 0, 1) := by decide +kernel
theorem dX1_make_1 : decode cX1_make 1 = .ok (.getfield 51, 3) := by decide +kernel
theorem dX1_make_4 : decode cX1_make 4 = .ok (.istore 4, 2) := by decide +kernel
theorem dX1_make_6 : decode cX1_make 6 = .ok (.aload_n 0, 1) := by decide +kernel
theorem dX1_make_7 : decode cX1_make 7 = .ok (.dup, 1) := by decide +kernel
theorem dX1_make_8 : decode cX1_make 8 = .ok (.getfield 51, 3) := by decide +kernel
theorem dX1_make_11 : decode cX1_make 11 = .ok (.iconst 1, 1) := by decide +kernel
theorem dX1_make_12 : decode cX1_make 12 = .ok (.iadd, 1) := by decide +kernel
theorem dX1_make_13 : decode cX1_make 13 = .ok (.putfield 51, 3) := by decide +kernel
theorem dX1_make_16 : decode cX1_make 16 = .ok (.aload_n 0, 1) := by decide +kernel
theorem dX1_make_17 : decode cX1_make 17 = .ok (.getfield 13, 3) := by decide +kernel
theorem dX1_make_20 : decode cX1_make 20 = .ok (.iload 4, 2) := by decide +kernel
theorem dX1_make_22 : decode cX1_make 22 = .ok (.iload_n 1, 1) := by decide +kernel
theorem dX1_make_23 : decode cX1_make 23 = .ok (.iastore, 1) := by decide +kernel
theorem dX1_make_24 : decode cX1_make 24 = .ok (.aload_n 0, 1) := by decide +kernel
theorem dX1_make_25 : decode cX1_make 25 = .ok (.getfield 16, 3) := by decide +kernel
theorem dX1_make_28 : decode cX1_make 28 = .ok (.iload 4, 2) := by decide +kernel
theorem dX1_make_30 : decode cX1_make 30 = .ok (.iload_n 2, 1) := by decide +kernel
theorem dX1_make_31 : decode cX1_make 31 = .ok (.iastore, 1) := by decide +kernel
theorem dX1_make_32 : decode cX1_make 32 = .ok (.aload_n 0, 1) := by decide +kernel
theorem dX1_make_33 : decode cX1_make 33 = .ok (.getfield 19, 3) := by decide +kernel
theorem dX1_make_36 : decode cX1_make 36 = .ok (.iload 4, 2) := by decide +kernel
theorem dX1_make_38 : decode cX1_make 38 = .ok (.iload_n 3, 1) := by decide +kernel
theorem dX1_make_39 : decode cX1_make 39 = .ok (.iastore, 1) := by decide +kernel
theorem dX1_make_40 : decode cX1_make 40 = .ok (.iconst 0, 1) := by decide +kernel
theorem dX1_make_41 : decode cX1_make 41 = .ok (.istore 5, 2) := by decide +kernel
theorem dX1_make_43 : decode cX1_make 43 = .ok (.iload 5, 2) := by decide +kernel
theorem dX1_make_45 : decode cX1_make 45 = .ok (.sipush 1600, 3) := by decide +kernel
theorem dX1_make_48 : decode cX1_make 48 = .ok (.if_icmp .ge 24, 3) := by decide +kernel
theorem dX1_make_51 : decode cX1_make 51 = .ok (.aload_n 0, 1) := by decide +kernel
theorem dX1_make_52 : decode cX1_make 52 = .ok (.getfield 22, 3) := by decide +kernel
theorem dX1_make_55 : decode cX1_make 55 = .ok (.sipush 1600, 3) := by decide +kernel
theorem dX1_make_58 : decode cX1_make 58 = .ok (.iload 4, 2) := by decide +kernel
theorem dX1_make_60 : decode cX1_make 60 = .ok (.imul, 1) := by decide +kernel
theorem dX1_make_61 : decode cX1_make 61 = .ok (.iload 5, 2) := by decide +kernel
theorem dX1_make_63 : decode cX1_make 63 = .ok (.iadd, 1) := by decide +kernel
theorem dX1_make_64 : decode cX1_make 64 = .ok (.iconst 0, 1) := by decide +kernel
theorem dX1_make_65 : decode cX1_make 65 = .ok (.bastore, 1) := by decide +kernel
theorem dX1_make_66 : decode cX1_make 66 = .ok (.iinc 5 1, 3) := by decide +kernel
theorem dX1_make_69 : decode cX1_make 69 = .ok (.goto (-26), 3) := by decide +kernel
theorem dX1_make_72 : decode cX1_make 72 = .ok (.iconst 0, 1) := by decide +kernel
theorem dX1_make_73 : decode cX1_make 73 = .ok (.istore 5, 2) := by decide +kernel
theorem dX1_make_75 : decode cX1_make 75 = .ok (.iload 5, 2) := by decide +kernel
theorem dX1_make_77 : decode cX1_make 77 = .ok (.aload_n 0, 1) := by decide +kernel
theorem dX1_make_78 : decode cX1_make 78 = .ok (.getfield 41, 3) := by decide +kernel
theorem dX1_make_81 : decode cX1_make 81 = .ok (.if_icmp .ge 50, 3) := by decide +kernel
theorem dX1_make_84 : decode cX1_make 84 = .ok (.aload_n 0, 1) := by decide +kernel
theorem dX1_make_85 : decode cX1_make 85 = .ok (.getfield 22, 3) := by decide +kernel
theorem dX1_make_88 : decode cX1_make 88 = .ok (.iload 4, 2) := by decide +kernel
theorem dX1_make_90 : decode cX1_make 90 = .ok (.iload 5, 2) := by decide +kernel
theorem dX1_make_92 : decode cX1_make 92 = .ok (.iload 5, 2) := by decide +kernel
theorem dX1_make_94 : decode cX1_make 94 = .ok (.invokestatic 68, 3) := by decide +kernel
theorem dX1_make_97 : decode cX1_make 97 = .ok (.iload_n 1, 1) := by decide +kernel
theorem dX1_make_98 : decode cX1_make 98 = .ok (.bipush 6, 2) := by decide +kernel
theorem dX1_make_100 : decode cX1_make 100 = .ok (.if_icmp .ne 23, 3) := by decide +kernel
theorem dX1_make_103 : decode cX1_make 103 = .ok (.iload_n 2, 1) := by decide +kernel
theorem dX1_make_104 : decode cX1_make 104 = .ok (.iconst (-1), 1) := by decide +kernel
theorem dX1_make_105 : decode cX1_make 105 = .ok (.if_icmp .eq 14, 3) := by decide +kernel
theorem dX1_make_108 : decode cX1_make 108 = .ok (.aload_n 0, 1) := by decide +kernel
theorem dX1_make_109 : decode cX1_make 109 = .ok (.getfield 7, 3) := by decide +kernel
theorem dX1_make_112 : decode cX1_make 112 = .ok (.iload 5, 2) := by decide +kernel
theorem dX1_make_114 : decode cX1_make 114 = .ok (.iaload, 1) := by decide +kernel
theorem dX1_make_115 : decode cX1_make 115 = .ok (.iload_n 2, 1) := by decide +kernel
theorem dX1_make_116 : decode cX1_make 116 = .ok (.if_icmp .ne 7, 3) := by decide +kernel
theorem dX1_make_119 : decode cX1_make 119 = .ok (.iconst 1, 1) := by decide +kernel
theorem dX1_make_120 : decode cX1_make 120 = .ok (.goto 4, 3) := by decide +kernel
theorem dX1_make_123 : decode cX1_make 123 = .ok (.iconst 0, 1) := by decide +kernel
theorem dX1_make_124 : decode cX1_make 124 = .ok (.bastore, 1) := by decide +kernel
theorem dX1_make_125 : decode cX1_make 125 = .ok (.iinc 5 1, 3) := by decide +kernel
theorem dX1_make_128 : decode cX1_make 128 = .ok (.goto (-53), 3) := by decide +kernel
theorem dX1_make_131 : decode cX1_make 131 = .ok (.iload 4, 2) := by decide +kernel
theorem dX1_make_133 : decode cX1_make 133 = .ok (.ireturn, 1) := by decide +kernel
theorem dX1_relation_0 : decode cX1_relation 0 = .ok (.iload_n 1, 1) := by decide +kernel
theorem dX1_relation_1 : decode cX1_relation 1 = .ok (.iconst 0, 1) := by decide +kernel
theorem dX1_relation_2 : decode cX1_relation 2 = .ok (.bipush 6, 2) := by decide +kernel
theorem dX1_relation_4 : decode cX1_relation 4 = .ok (.invokestatic 57, 3) := by decide +kernel
theorem dX1_relation_7 : decode cX1_relation 7 = .ok (.ifCond .eq 35, 3) := by decide +kernel
theorem dX1_relation_10 : decode cX1_relation 10 = .ok (.iload_n 2, 1) := by decide +kernel
theorem dX1_relation_11 : decode cX1_relation 11 = .ok (.iconst (-1), 1) := by decide +kernel
theorem dX1_relation_12 : decode cX1_relation 12 = .ok (.iconst 3, 1) := by decide +kernel
theorem dX1_relation_13 : decode cX1_relation 13 = .ok (.invokestatic 57, 3) := by decide +kernel
theorem dX1_relation_16 : decode cX1_relation 16 = .ok (.ifCond .eq 26, 3) := by decide +kernel
theorem dX1_relation_19 : decode cX1_relation 19 = .ok (.iload_n 3, 1) := by decide +kernel
theorem dX1_relation_20 : decode cX1_relation 20 = .ok (.iconst (-1), 1) := by decide +kernel
theorem dX1_relation_21 : decode cX1_relation 21 = .ok (.iconst 3, 1) := by decide +kernel
theorem dX1_relation_22 : decode cX1_relation 22 = .ok (.invokestatic 57, 3) := by decide +kernel
theorem dX1_relation_25 : decode cX1_relation 25 = .ok (.ifCond .eq 17, 3) := by decide +kernel
theorem dX1_relation_28 : decode cX1_relation 28 = .ok (.iload_n 1, 1) := by decide +kernel
theorem dX1_relation_29 : decode cX1_relation 29 = .ok (.iconst 4, 1) := by decide +kernel
theorem dX1_relation_30 : decode cX1_relation 30 = .ok (.if_icmp .lt 8, 3) := by decide +kernel
theorem dX1_relation_33 : decode cX1_relation 33 = .ok (.iload_n 2, 1) := by decide +kernel
theorem dX1_relation_34 : decode cX1_relation 34 = .ok (.iload_n 3, 1) := by decide +kernel
theorem dX1_relation_35 : decode cX1_relation 35 = .ok (.if_icmp .ne 7, 3) := by decide +kernel
theorem dX1_relation_38 : decode cX1_relation 38 = .ok (.iconst 1, 1) := by decide +kernel
theorem dX1_relation_39 : decode cX1_relation 39 = .ok (.goto 4, 3) := by decide +kernel
theorem dX1_relation_42 : decode cX1_relation 42 = .ok (.iconst 0, 1) := by decide +kernel
theorem dX1_relation_43 : decode cX1_relation 43 = .ok (.istore 4, 2) := by decide +kernel
theorem dX1_relation_45 : decode cX1_relation 45 = .ok (.aload_n 0, 1) := by decide +kernel
theorem dX1_relation_46 : decode cX1_relation 46 = .ok (.iload 4, 2) := by decide +kernel
theorem dX1_relation_48 : decode cX1_relation 48 = .ok (.ifCond .ne 7, 3) := by decide +kernel
theorem dX1_relation_51 : decode cX1_relation 51 = .ok (.iconst 1, 1) := by decide +kernel
theorem dX1_relation_52 : decode cX1_relation 52 = .ok (.goto 17, 3) := by decide +kernel
theorem dX1_relation_55 : decode cX1_relation 55 = .ok (.aload_n 0, 1) := by decide +kernel
theorem dX1_relation_56 : decode cX1_relation 56 = .ok (.getfield 51, 3) := by decide +kernel
theorem dX1_relation_59 : decode cX1_relation 59 = .ok (.bipush 12, 2) := by decide +kernel
theorem dX1_relation_61 : decode cX1_relation 61 = .ok (.if_icmp .ne 7, 3) := by decide +kernel
theorem dX1_relation_64 : decode cX1_relation 64 = .ok (.iconst 2, 1) := by decide +kernel
theorem dX1_relation_65 : decode cX1_relation 65 = .ok (.goto 4, 3) := by decide +kernel
theorem dX1_relation_68 : decode cX1_relation 68 = .ok (.iconst 0, 1) := by decide +kernel
theorem dX1_relation_69 : decode cX1_relation 69 = .ok (.invokevirtual 65, 3) := by decide +kernel
theorem dX1_relation_72 : decode cX1_relation 72 = .ok (.ifCond .eq 13, 3) := by decide +kernel
theorem dX1_relation_75 : decode cX1_relation 75 = .ok (.aload_n 0, 1) := by decide +kernel
theorem dX1_relation_76 : decode cX1_relation 76 = .ok (.iload_n 1, 1) := by decide +kernel
theorem dX1_relation_77 : decode cX1_relation 77 = .ok (.iload_n 2, 1) := by decide +kernel
theorem dX1_relation_78 : decode cX1_relation 78 = .ok (.iload_n 3, 1) := by decide +kernel
theorem dX1_relation_79 : decode cX1_relation 79 = .ok (.invokevirtual 72, 3) := by decide +kernel
theorem dX1_relation_82 : decode cX1_relation 82 = .ok (.goto 4, 3) := by decide +kernel
theorem dX1_relation_85 : decode cX1_relation 85 = .ok (.iconst 0, 1) := by decide +kernel
theorem dX1_relation_86 : decode cX1_relation 86 = .ok (.ireturn, 1) := by decide +kernel
theorem dX1_condition_0 : decode cX1_condition 0 = .ok (.iload_n 1, 1) := by decide +kernel
theorem dX1_condition_1 : decode cX1_condition 1 = .ok (.iconst 2, 1) := by decide +kernel
theorem dX1_condition_2 : decode cX1_condition 2 = .ok (.iconst 4, 1) := by decide +kernel
theorem dX1_condition_3 : decode cX1_condition 3 = .ok (.invokestatic 57, 3) := by decide +kernel
theorem dX1_condition_6 : decode cX1_condition 6 = .ok (.istore 4, 2) := by decide +kernel
theorem dX1_condition_8 : decode cX1_condition 8 = .ok (.iload_n 1, 1) := by decide +kernel
theorem dX1_condition_9 : decode cX1_condition 9 = .ok (.iconst 0, 1) := by decide +kernel
theorem dX1_condition_10 : decode cX1_condition 10 = .ok (.iconst 5, 1) := by decide +kernel
theorem dX1_condition_11 : decode cX1_condition 11 = .ok (.invokestatic 57, 3) := by decide +kernel
theorem dX1_condition_14 : decode cX1_condition 14 = .ok (.ifCond .eq 36, 3) := by decide +kernel
theorem dX1_condition_17 : decode cX1_condition 17 = .ok (.aload_n 0, 1) := by decide +kernel
theorem dX1_condition_18 : decode cX1_condition 18 = .ok (.iload_n 2, 1) := by decide +kernel
theorem dX1_condition_19 : decode cX1_condition 19 = .ok (.invokevirtual 75, 3) := by decide +kernel
theorem dX1_condition_22 : decode cX1_condition 22 = .ok (.ifCond .eq 28, 3) := by decide +kernel
theorem dX1_condition_25 : decode cX1_condition 25 = .ok (.iload 4, 2) := by decide +kernel
theorem dX1_condition_27 : decode cX1_condition 27 = .ok (.ifCond .eq 14, 3) := by decide +kernel
theorem dX1_condition_30 : decode cX1_condition 30 = .ok (.aload_n 0, 1) := by decide +kernel
theorem dX1_condition_31 : decode cX1_condition 31 = .ok (.iload_n 3, 1) := by decide +kernel
theorem dX1_condition_32 : decode cX1_condition 32 = .ok (.invokevirtual 75, 3) := by decide +kernel
theorem dX1_condition_35 : decode cX1_condition 35 = .ok (.ifCond .eq 15, 3) := by decide +kernel
theorem dX1_condition_38 : decode cX1_condition 38 = .ok (.goto 8, 3) := by decide +kernel
theorem dX1_condition_41 : decode cX1_condition 41 = .ok (.iload_n 3, 1) := by decide +kernel
theorem dX1_condition_42 : decode cX1_condition 42 = .ok (.iconst (-1), 1) := by decide +kernel
theorem dX1_condition_43 : decode cX1_condition 43 = .ok (.if_icmp .ne 7, 3) := by decide +kernel
theorem dX1_condition_46 : decode cX1_condition 46 = .ok (.iconst 1, 1) := by decide +kernel
theorem dX1_condition_47 : decode cX1_condition 47 = .ok (.goto 4, 3) := by decide +kernel
theorem dX1_condition_50 : decode cX1_condition 50 = .ok (.iconst 0, 1) := by decide +kernel
theorem dX1_condition_51 : decode cX1_condition 51 = .ok (.istore 5, 2) := by decide +kernel
theorem dX1_condition_53 : decode cX1_condition 53 = .ok (.aload_n 0, 1) := by decide +kernel
theorem dX1_condition_54 : decode cX1_condition 54 = .ok (.iload 5, 2) := by decide +kernel
theorem dX1_condition_56 : decode cX1_condition 56 = .ok (.ifCond .ne 7, 3) := by decide +kernel
theorem dX1_condition_59 : decode cX1_condition 59 = .ok (.iconst 1, 1) := by decide +kernel
theorem dX1_condition_60 : decode cX1_condition 60 = .ok (.goto 17, 3) := by decide +kernel
theorem dX1_condition_63 : decode cX1_condition 63 = .ok (.aload_n 0, 1) := by decide +kernel
theorem dX1_condition_64 : decode cX1_condition 64 = .ok (.getfield 51, 3) := by decide +kernel
theorem dX1_condition_67 : decode cX1_condition 67 = .ok (.bipush 12, 2) := by decide +kernel
theorem dX1_condition_69 : decode cX1_condition 69 = .ok (.if_icmp .ne 7, 3) := by decide +kernel
theorem dX1_condition_72 : decode cX1_condition 72 = .ok (.iconst 2, 1) := by decide +kernel
theorem dX1_condition_73 : decode cX1_condition 73 = .ok (.goto 4, 3) := by decide +kernel
theorem dX1_condition_76 : decode cX1_condition 76 = .ok (.iconst 0, 1) := by decide +kernel
theorem dX1_condition_77 : decode cX1_condition 77 = .ok (.invokevirtual 65, 3) := by decide +kernel
theorem dX1_condition_80 : decode cX1_condition 80 = .ok (.ifCond .eq 16, 3) := by decide +kernel
theorem dX1_condition_83 : decode cX1_condition 83 = .ok (.aload_n 0, 1) := by decide +kernel
theorem dX1_condition_84 : decode cX1_condition 84 = .ok (.bipush 10, 2) := by decide +kernel
theorem dX1_condition_86 : decode cX1_condition 86 = .ok (.iload_n 1, 1) := by decide +kernel
theorem dX1_condition_87 : decode cX1_condition 87 = .ok (.iadd, 1) := by decide +kernel
theorem dX1_condition_88 : decode cX1_condition 88 = .ok (.iload_n 2, 1) := by decide +kernel
theorem dX1_condition_89 : decode cX1_condition 89 = .ok (.iload_n 3, 1) := by decide +kernel
theorem dX1_condition_90 : decode cX1_condition 90 = .ok (.invokevirtual 72, 3) := by decide +kernel
theorem dX1_condition_93 : decode cX1_condition 93 = .ok (.goto 4, 3) := by decide +kernel
theorem dX1_condition_96 : decode cX1_condition 96 = .ok (.iconst 0, 1) := by decide +kernel
theorem dX1_condition_97 : decode cX1_condition 97 = .ok (.ireturn, 1) := by decide +kernel
theorem dX1_work_0 : decode cX1_work 0 = .ok (.aload_n 0, 1) := by decide +kernel
theorem dX1_work_1 : decode cX1_work 1 = .ok (.getfield 16, 3) := by decide +kernel
theorem dX1_work_4 : decode cX1_work 4 = .ok (.iload_n 1, 1) := by decide +kernel
theorem dX1_work_5 : decode cX1_work 5 = .ok (.iaload, 1) := by decide +kernel
theorem dX1_work_6 : decode cX1_work 6 = .ok (.istore_n 2, 1) := by decide +kernel
theorem dX1_work_7 : decode cX1_work 7 = .ok (.aload_n 0, 1) := by decide +kernel
theorem dX1_work_8 : decode cX1_work 8 = .ok (.getfield 19, 3) := by decide +kernel
theorem dX1_work_11 : decode cX1_work 11 = .ok (.iload_n 1, 1) := by decide +kernel
theorem dX1_work_12 : decode cX1_work 12 = .ok (.iaload, 1) := by decide +kernel
theorem dX1_work_13 : decode cX1_work 13 = .ok (.istore_n 3, 1) := by decide +kernel
theorem dX1_work_14 : decode cX1_work 14 = .ok (.iconst 0, 1) := by decide +kernel
theorem dX1_work_15 : decode cX1_work 15 = .ok (.istore 4, 2) := by decide +kernel
theorem dX1_work_17 : decode cX1_work 17 = .ok (.iload 4, 2) := by decide +kernel
theorem dX1_work_19 : decode cX1_work 19 = .ok (.aload_n 0, 1) := by decide +kernel
theorem dX1_work_20 : decode cX1_work 20 = .ok (.getfield 41, 3) := by decide +kernel
theorem dX1_work_23 : decode cX1_work 23 = .ok (.if_icmp .ge 295, 3) := by decide +kernel
theorem dX1_work_26 : decode cX1_work 26 = .ok (.iconst 0, 1) := by decide +kernel
theorem dX1_work_27 : decode cX1_work 27 = .ok (.istore 5, 2) := by decide +kernel
theorem dX1_work_29 : decode cX1_work 29 = .ok (.iload 5, 2) := by decide +kernel
theorem dX1_work_31 : decode cX1_work 31 = .ok (.aload_n 0, 1) := by decide +kernel
theorem dX1_work_32 : decode cX1_work 32 = .ok (.getfield 41, 3) := by decide +kernel
theorem dX1_work_35 : decode cX1_work 35 = .ok (.if_icmp .ge 277, 3) := by decide +kernel
theorem dX1_work_38 : decode cX1_work 38 = .ok (.aload_n 0, 1) := by decide +kernel
theorem dX1_work_39 : decode cX1_work 39 = .ok (.getfield 13, 3) := by decide +kernel
theorem dX1_work_42 : decode cX1_work 42 = .ok (.iload_n 1, 1) := by decide +kernel
theorem dX1_work_43 : decode cX1_work 43 = .ok (.iaload, 1) := by decide +kernel
theorem dX1_work_44 : decode cX1_work 44 = .ok (.tableswitch 232 10 14 #[36, 54, 80, 122, 164], 36) := by decide +kernel
theorem dX1_work_80 : decode cX1_work 80 = .ok (.aload_n 0, 1) := by decide +kernel
theorem dX1_work_81 : decode cX1_work 81 = .ok (.getfield 22, 3) := by decide +kernel
theorem dX1_work_84 : decode cX1_work 84 = .ok (.iload_n 2, 1) := by decide +kernel
theorem dX1_work_85 : decode cX1_work 85 = .ok (.iload 5, 2) := by decide +kernel
theorem dX1_work_87 : decode cX1_work 87 = .ok (.iload 4, 2) := by decide +kernel
theorem dX1_work_89 : decode cX1_work 89 = .ok (.invokestatic 68, 3) := by decide +kernel
theorem dX1_work_92 : decode cX1_work 92 = .ok (.baload, 1) := by decide +kernel
theorem dX1_work_93 : decode cX1_work 93 = .ok (.istore 6, 2) := by decide +kernel
theorem dX1_work_95 : decode cX1_work 95 = .ok (.goto 196, 3) := by decide +kernel
theorem dX1_work_98 : decode cX1_work 98 = .ok (.aload_n 0, 1) := by decide +kernel
theorem dX1_work_99 : decode cX1_work 99 = .ok (.getfield 22, 3) := by decide +kernel
theorem dX1_work_102 : decode cX1_work 102 = .ok (.iload_n 2, 1) := by decide +kernel
theorem dX1_work_103 : decode cX1_work 103 = .ok (.iload 4, 2) := by decide +kernel
theorem dX1_work_105 : decode cX1_work 105 = .ok (.iload 5, 2) := by decide +kernel
theorem dX1_work_107 : decode cX1_work 107 = .ok (.invokestatic 68, 3) := by decide +kernel
theorem dX1_work_110 : decode cX1_work 110 = .ok (.baload, 1) := by decide +kernel
theorem dX1_work_111 : decode cX1_work 111 = .ok (.ifCond .ne 7, 3) := by decide +kernel
theorem dX1_work_114 : decode cX1_work 114 = .ok (.iconst 1, 1) := by decide +kernel
theorem dX1_work_115 : decode cX1_work 115 = .ok (.goto 4, 3) := by decide +kernel
theorem dX1_work_118 : decode cX1_work 118 = .ok (.iconst 0, 1) := by decide +kernel
theorem dX1_work_119 : decode cX1_work 119 = .ok (.istore 6, 2) := by decide +kernel
theorem dX1_work_121 : decode cX1_work 121 = .ok (.goto 170, 3) := by decide +kernel
theorem dX1_work_124 : decode cX1_work 124 = .ok (.aload_n 0, 1) := by decide +kernel
theorem dX1_work_125 : decode cX1_work 125 = .ok (.getfield 22, 3) := by decide +kernel
theorem dX1_work_128 : decode cX1_work 128 = .ok (.iload_n 2, 1) := by decide +kernel
theorem dX1_work_129 : decode cX1_work 129 = .ok (.iload 4, 2) := by decide +kernel
theorem dX1_work_131 : decode cX1_work 131 = .ok (.iload 5, 2) := by decide +kernel
theorem dX1_work_133 : decode cX1_work 133 = .ok (.invokestatic 68, 3) := by decide +kernel
theorem dX1_work_136 : decode cX1_work 136 = .ok (.baload, 1) := by decide +kernel
theorem dX1_work_137 : decode cX1_work 137 = .ok (.ifCond .eq 23, 3) := by decide +kernel
theorem dX1_work_140 : decode cX1_work 140 = .ok (.aload_n 0, 1) := by decide +kernel
theorem dX1_work_141 : decode cX1_work 141 = .ok (.getfield 22, 3) := by decide +kernel
theorem dX1_work_144 : decode cX1_work 144 = .ok (.iload_n 3, 1) := by decide +kernel
theorem dX1_work_145 : decode cX1_work 145 = .ok (.iload 4, 2) := by decide +kernel
theorem dX1_work_147 : decode cX1_work 147 = .ok (.iload 5, 2) := by decide +kernel
theorem dX1_work_149 : decode cX1_work 149 = .ok (.invokestatic 68, 3) := by decide +kernel
theorem dX1_work_152 : decode cX1_work 152 = .ok (.baload, 1) := by decide +kernel
theorem dX1_work_153 : decode cX1_work 153 = .ok (.ifCond .eq 7, 3) := by decide +kernel
theorem dX1_work_156 : decode cX1_work 156 = .ok (.iconst 1, 1) := by decide +kernel
theorem dX1_work_157 : decode cX1_work 157 = .ok (.goto 4, 3) := by decide +kernel
theorem dX1_work_160 : decode cX1_work 160 = .ok (.iconst 0, 1) := by decide +kernel
theorem dX1_work_161 : decode cX1_work 161 = .ok (.istore 6, 2) := by decide +kernel
theorem dX1_work_163 : decode cX1_work 163 = .ok (.goto 128, 3) := by decide +kernel
theorem dX1_work_166 : decode cX1_work 166 = .ok (.aload_n 0, 1) := by decide +kernel
theorem dX1_work_167 : decode cX1_work 167 = .ok (.getfield 22, 3) := by decide +kernel
theorem dX1_work_170 : decode cX1_work 170 = .ok (.iload_n 2, 1) := by decide +kernel
theorem dX1_work_171 : decode cX1_work 171 = .ok (.iload 4, 2) := by decide +kernel
theorem dX1_work_173 : decode cX1_work 173 = .ok (.iload 5, 2) := by decide +kernel
theorem dX1_work_175 : decode cX1_work 175 = .ok (.invokestatic 68, 3) := by decide +kernel
theorem dX1_work_178 : decode cX1_work 178 = .ok (.baload, 1) := by decide +kernel
theorem dX1_work_179 : decode cX1_work 179 = .ok (.ifCond .ne 19, 3) := by decide +kernel
theorem dX1_work_182 : decode cX1_work 182 = .ok (.aload_n 0, 1) := by decide +kernel
theorem dX1_work_183 : decode cX1_work 183 = .ok (.getfield 22, 3) := by decide +kernel
theorem dX1_work_186 : decode cX1_work 186 = .ok (.iload_n 3, 1) := by decide +kernel
theorem dX1_work_187 : decode cX1_work 187 = .ok (.iload 4, 2) := by decide +kernel
theorem dX1_work_189 : decode cX1_work 189 = .ok (.iload 5, 2) := by decide +kernel
theorem dX1_work_191 : decode cX1_work 191 = .ok (.invokestatic 68, 3) := by decide +kernel
theorem dX1_work_194 : decode cX1_work 194 = .ok (.baload, 1) := by decide +kernel
theorem dX1_work_195 : decode cX1_work 195 = .ok (.ifCond .eq 7, 3) := by decide +kernel
theorem dX1_work_198 : decode cX1_work 198 = .ok (.iconst 1, 1) := by decide +kernel
theorem dX1_work_199 : decode cX1_work 199 = .ok (.goto 4, 3) := by decide +kernel
theorem dX1_work_202 : decode cX1_work 202 = .ok (.iconst 0, 1) := by decide +kernel
theorem dX1_work_203 : decode cX1_work 203 = .ok (.istore 6, 2) := by decide +kernel
theorem dX1_work_205 : decode cX1_work 205 = .ok (.goto 86, 3) := by decide +kernel
theorem dX1_work_208 : decode cX1_work 208 = .ok (.iconst 0, 1) := by decide +kernel
theorem dX1_work_209 : decode cX1_work 209 = .ok (.istore 6, 2) := by decide +kernel
theorem dX1_work_211 : decode cX1_work 211 = .ok (.iconst 0, 1) := by decide +kernel
theorem dX1_work_212 : decode cX1_work 212 = .ok (.istore 7, 2) := by decide +kernel
theorem dX1_work_214 : decode cX1_work 214 = .ok (.iload 7, 2) := by decide +kernel
theorem dX1_work_216 : decode cX1_work 216 = .ok (.aload_n 0, 1) := by decide +kernel
theorem dX1_work_217 : decode cX1_work 217 = .ok (.getfield 41, 3) := by decide +kernel
theorem dX1_work_220 : decode cX1_work 220 = .ok (.if_icmp .ge 53, 3) := by decide +kernel
theorem dX1_work_223 : decode cX1_work 223 = .ok (.iload 6, 2) := by decide +kernel
theorem dX1_work_225 : decode cX1_work 225 = .ok (.ifCond .ne 35, 3) := by decide +kernel
theorem dX1_work_228 : decode cX1_work 228 = .ok (.aload_n 0, 1) := by decide +kernel
theorem dX1_work_229 : decode cX1_work 229 = .ok (.getfield 22, 3) := by decide +kernel
theorem dX1_work_232 : decode cX1_work 232 = .ok (.iload_n 2, 1) := by decide +kernel
theorem dX1_work_233 : decode cX1_work 233 = .ok (.iload 4, 2) := by decide +kernel
theorem dX1_work_235 : decode cX1_work 235 = .ok (.iload 7, 2) := by decide +kernel
theorem dX1_work_237 : decode cX1_work 237 = .ok (.invokestatic 68, 3) := by decide +kernel
theorem dX1_work_240 : decode cX1_work 240 = .ok (.baload, 1) := by decide +kernel
theorem dX1_work_241 : decode cX1_work 241 = .ok (.ifCond .eq 23, 3) := by decide +kernel
theorem dX1_work_244 : decode cX1_work 244 = .ok (.aload_n 0, 1) := by decide +kernel
theorem dX1_work_245 : decode cX1_work 245 = .ok (.getfield 22, 3) := by decide +kernel
theorem dX1_work_248 : decode cX1_work 248 = .ok (.iload_n 3, 1) := by decide +kernel
theorem dX1_work_249 : decode cX1_work 249 = .ok (.iload 7, 2) := by decide +kernel
theorem dX1_work_251 : decode cX1_work 251 = .ok (.iload 5, 2) := by decide +kernel
theorem dX1_work_253 : decode cX1_work 253 = .ok (.invokestatic 68, 3) := by decide +kernel
theorem dX1_work_256 : decode cX1_work 256 = .ok (.baload, 1) := by decide +kernel
theorem dX1_work_257 : decode cX1_work 257 = .ok (.ifCond .eq 7, 3) := by decide +kernel
theorem dX1_work_260 : decode cX1_work 260 = .ok (.iconst 1, 1) := by decide +kernel
theorem dX1_work_261 : decode cX1_work 261 = .ok (.goto 4, 3) := by decide +kernel
theorem dX1_work_264 : decode cX1_work 264 = .ok (.iconst 0, 1) := by decide +kernel
theorem dX1_work_265 : decode cX1_work 265 = .ok (.istore 6, 2) := by decide +kernel
theorem dX1_work_267 : decode cX1_work 267 = .ok (.iinc 7 1, 3) := by decide +kernel
theorem dX1_work_270 : decode cX1_work 270 = .ok (.goto (-56), 3) := by decide +kernel
theorem dX1_work_273 : decode cX1_work 273 = .ok (.goto 18, 3) := by decide +kernel
theorem dX1_work_276 : decode cX1_work 276 = .ok (.aload_n 0, 1) := by decide +kernel
theorem dX1_work_277 : decode cX1_work 277 = .ok (.getfield 22, 3) := by decide +kernel
theorem dX1_work_280 : decode cX1_work 280 = .ok (.iload_n 2, 1) := by decide +kernel
theorem dX1_work_281 : decode cX1_work 281 = .ok (.iload 4, 2) := by decide +kernel
theorem dX1_work_283 : decode cX1_work 283 = .ok (.iload 5, 2) := by decide +kernel
theorem dX1_work_285 : decode cX1_work 285 = .ok (.invokestatic 68, 3) := by decide +kernel
theorem dX1_work_288 : decode cX1_work 288 = .ok (.baload, 1) := by decide +kernel
theorem dX1_work_289 : decode cX1_work 289 = .ok (.istore 6, 2) := by decide +kernel
theorem dX1_work_291 : decode cX1_work 291 = .ok (.aload_n 0, 1) := by decide +kernel
theorem dX1_work_292 : decode cX1_work 292 = .ok (.getfield 22, 3) := by decide +kernel
theorem dX1_work_295 : decode cX1_work 295 = .ok (.iload_n 1, 1) := by decide +kernel
theorem dX1_work_296 : decode cX1_work 296 = .ok (.iload 4, 2) := by decide +kernel
theorem dX1_work_298 : decode cX1_work 298 = .ok (.iload 5, 2) := by decide +kernel
theorem dX1_work_300 : decode cX1_work 300 = .ok (.invokestatic 68, 3) := by decide +kernel
theorem dX1_work_303 : decode cX1_work 303 = .ok (.iload 6, 2) := by decide +kernel
theorem dX1_work_305 : decode cX1_work 305 = .ok (.bastore, 1) := by decide +kernel
theorem dX1_work_306 : decode cX1_work 306 = .ok (.iinc 5 1, 3) := by decide +kernel
theorem dX1_work_309 : decode cX1_work 309 = .ok (.goto (-280), 3) := by decide +kernel
theorem dX1_work_312 : decode cX1_work 312 = .ok (.iinc 4 1, 3) := by decide +kernel
theorem dX1_work_315 : decode cX1_work 315 = .ok (.goto (-298), 3) := by decide +kernel
theorem dX1_work_318 : decode cX1_work 318 = .ok (.aload_n 0, 1) := by decide +kernel
theorem dX1_work_319 : decode cX1_work 319 = .ok (.getfield 13, 3) := by decide +kernel
theorem dX1_work_322 : decode cX1_work 322 = .ok (.iload_n 1, 1) := by decide +kernel
theorem dX1_work_323 : decode cX1_work 323 = .ok (.iaload, 1) := by decide +kernel
theorem dX1_work_324 : decode cX1_work 324 = .ok (.bipush 14, 2) := by decide +kernel
theorem dX1_work_326 : decode cX1_work 326 = .ok (.if_icmp .le 8, 3) := by decide +kernel
theorem dX1_work_329 : decode cX1_work 329 = .ok (.aload_n 0, 1) := by decide +kernel
theorem dX1_work_330 : decode cX1_work 330 = .ok (.iload_n 1, 1) := by decide +kernel
theorem dX1_work_331 : decode cX1_work 331 = .ok (.invokevirtual 78, 3) := by decide +kernel
theorem dX1_work_334 : decode cX1_work 334 = .ok (.return_, 1) := by decide +kernel
theorem dX1_far_0 : decode cX1_far 0 = .ok (.iconst 0, 1) := by decide +kernel
theorem dX1_far_1 : decode cX1_far 1 = .ok (.istore_n 2, 1) := by decide +kernel
theorem dX1_far_2 : decode cX1_far 2 = .ok (.iload_n 2, 1) := by decide +kernel
theorem dX1_far_3 : decode cX1_far 3 = .ok (.aload_n 0, 1) := by decide +kernel
theorem dX1_far_4 : decode cX1_far 4 = .ok (.getfield 41, 3) := by decide +kernel
theorem dX1_far_7 : decode cX1_far 7 = .ok (.if_icmp .ge 104, 3) := by decide +kernel
theorem dX1_far_10 : decode cX1_far 10 = .ok (.iconst 0, 1) := by decide +kernel
theorem dX1_far_11 : decode cX1_far 11 = .ok (.istore_n 3, 1) := by decide +kernel
theorem dX1_far_12 : decode cX1_far 12 = .ok (.iload_n 3, 1) := by decide +kernel
theorem dX1_far_13 : decode cX1_far 13 = .ok (.aload_n 0, 1) := by decide +kernel
theorem dX1_far_14 : decode cX1_far 14 = .ok (.getfield 41, 3) := by decide +kernel
theorem dX1_far_17 : decode cX1_far 17 = .ok (.if_icmp .ge 88, 3) := by decide +kernel
theorem dX1_far_20 : decode cX1_far 20 = .ok (.iconst 0, 1) := by decide +kernel
theorem dX1_far_21 : decode cX1_far 21 = .ok (.istore 4, 2) := by decide +kernel
theorem dX1_far_23 : decode cX1_far 23 = .ok (.iload 4, 2) := by decide +kernel
theorem dX1_far_25 : decode cX1_far 25 = .ok (.aload_n 0, 1) := by decide +kernel
theorem dX1_far_26 : decode cX1_far 26 = .ok (.getfield 41, 3) := by decide +kernel
theorem dX1_far_29 : decode cX1_far 29 = .ok (.if_icmp .ge 70, 3) := by decide +kernel
theorem dX1_far_32 : decode cX1_far 32 = .ok (.aload_n 0, 1) := by decide +kernel
theorem dX1_far_33 : decode cX1_far 33 = .ok (.getfield 22, 3) := by decide +kernel
theorem dX1_far_36 : decode cX1_far 36 = .ok (.iload_n 1, 1) := by decide +kernel
theorem dX1_far_37 : decode cX1_far 37 = .ok (.iload_n 3, 1) := by decide +kernel
theorem dX1_far_38 : decode cX1_far 38 = .ok (.iload_n 2, 1) := by decide +kernel
theorem dX1_far_39 : decode cX1_far 39 = .ok (.invokestatic 68, 3) := by decide +kernel
theorem dX1_far_42 : decode cX1_far 42 = .ok (.baload, 1) := by decide +kernel
theorem dX1_far_43 : decode cX1_far 43 = .ok (.ifCond .eq 56, 3) := by decide +kernel
theorem dX1_far_46 : decode cX1_far 46 = .ok (.aload_n 0, 1) := by decide +kernel
theorem dX1_far_47 : decode cX1_far 47 = .ok (.getfield 22, 3) := by decide +kernel
theorem dX1_far_50 : decode cX1_far 50 = .ok (.iload_n 1, 1) := by decide +kernel
theorem dX1_far_51 : decode cX1_far 51 = .ok (.iload_n 3, 1) := by decide +kernel
theorem dX1_far_52 : decode cX1_far 52 = .ok (.iload 4, 2) := by decide +kernel
theorem dX1_far_54 : decode cX1_far 54 = .ok (.invokestatic 68, 3) := by decide +kernel
theorem dX1_far_57 : decode cX1_far 57 = .ok (.aload_n 0, 1) := by decide +kernel
theorem dX1_far_58 : decode cX1_far 58 = .ok (.getfield 22, 3) := by decide +kernel
theorem dX1_far_61 : decode cX1_far 61 = .ok (.iload_n 1, 1) := by decide +kernel
theorem dX1_far_62 : decode cX1_far 62 = .ok (.iload_n 3, 1) := by decide +kernel
theorem dX1_far_63 : decode cX1_far 63 = .ok (.iload 4, 2) := by decide +kernel
theorem dX1_far_65 : decode cX1_far 65 = .ok (.invokestatic 68, 3) := by decide +kernel
theorem dX1_far_68 : decode cX1_far 68 = .ok (.baload, 1) := by decide +kernel
theorem dX1_far_69 : decode cX1_far 69 = .ok (.ifCond .ne 18, 3) := by decide +kernel
theorem dX1_far_72 : decode cX1_far 72 = .ok (.aload_n 0, 1) := by decide +kernel
theorem dX1_far_73 : decode cX1_far 73 = .ok (.getfield 22, 3) := by decide +kernel
theorem dX1_far_76 : decode cX1_far 76 = .ok (.iload_n 1, 1) := by decide +kernel
theorem dX1_far_77 : decode cX1_far 77 = .ok (.iload_n 2, 1) := by decide +kernel
theorem dX1_far_78 : decode cX1_far 78 = .ok (.iload 4, 2) := by decide +kernel
theorem dX1_far_80 : decode cX1_far 80 = .ok (.invokestatic 68, 3) := by decide +kernel
theorem dX1_far_83 : decode cX1_far 83 = .ok (.baload, 1) := by decide +kernel
theorem dX1_far_84 : decode cX1_far 84 = .ok (.ifCond .eq 7, 3) := by decide +kernel
theorem dX1_far_87 : decode cX1_far 87 = .ok (.iconst 1, 1) := by decide +kernel
theorem dX1_far_88 : decode cX1_far 88 = .ok (.goto 4, 3) := by decide +kernel
theorem dX1_far_91 : decode cX1_far 91 = .ok (.iconst 0, 1) := by decide +kernel
theorem dX1_far_92 : decode cX1_far 92 = .ok (.bastore, 1) := by decide +kernel
theorem dX1_far_93 : decode cX1_far 93 = .ok (.iinc 4 1, 3) := by decide +kernel
theorem dX1_far_96 : decode cX1_far 96 = .ok (.goto (-73), 3) := by decide +kernel
theorem dX1_far_99 : decode cX1_far 99 = .ok (.iinc 3 1, 3) := by decide +kernel
theorem dX1_far_102 : decode cX1_far 102 = .ok (.goto (-90), 3) := by decide +kernel
theorem dX1_far_105 : decode cX1_far 105 = .ok (.iinc 2 1, 3) := by decide +kernel
theorem dX1_far_108 : decode cX1_far 108 = .ok (.goto (-106), 3) := by decide +kernel
theorem dX1_far_111 : decode cX1_far 111 = .ok (.return_, 1) := by decide +kernel
theorem dX1_learn_0 : decode cX1_learn 0 = .ok (.iconst 0, 1) := by decide +kernel
theorem dX1_learn_1 : decode cX1_learn 1 = .ok (.istore_n 2, 1) := by decide +kernel
theorem dX1_learn_2 : decode cX1_learn 2 = .ok (.iload_n 2, 1) := by decide +kernel
theorem dX1_learn_3 : decode cX1_learn 3 = .ok (.iload_n 1, 1) := by decide +kernel
theorem dX1_learn_4 : decode cX1_learn 4 = .ok (.if_icmp .gt 25, 3) := by decide +kernel
theorem dX1_learn_7 : decode cX1_learn 7 = .ok (.aload_n 0, 1) := by decide +kernel
theorem dX1_learn_8 : decode cX1_learn 8 = .ok (.getfield 13, 3) := by decide +kernel
theorem dX1_learn_11 : decode cX1_learn 11 = .ok (.iload_n 2, 1) := by decide +kernel
theorem dX1_learn_12 : decode cX1_learn 12 = .ok (.iaload, 1) := by decide +kernel
theorem dX1_learn_13 : decode cX1_learn 13 = .ok (.bipush 10, 2) := by decide +kernel
theorem dX1_learn_15 : decode cX1_learn 15 = .ok (.if_icmp .lt 8, 3) := by decide +kernel
theorem dX1_learn_18 : decode cX1_learn 18 = .ok (.aload_n 0, 1) := by decide +kernel
theorem dX1_learn_19 : decode cX1_learn 19 = .ok (.iload_n 2, 1) := by decide +kernel
theorem dX1_learn_20 : decode cX1_learn 20 = .ok (.invokevirtual 82, 3) := by decide +kernel
theorem dX1_learn_23 : decode cX1_learn 23 = .ok (.iinc 2 1, 3) := by decide +kernel
theorem dX1_learn_26 : decode cX1_learn 26 = .ok (.goto (-24), 3) := by decide +kernel
theorem dX1_learn_29 : decode cX1_learn 29 = .ok (.return_, 1) := by decide +kernel
theorem dX1_isOf_0 : decode cX1_isOf 0 = .ok (.iload_n 1, 1) := by decide +kernel
theorem dX1_isOf_1 : decode cX1_isOf 1 = .ok (.iconst (-1), 1) := by decide +kernel
theorem dX1_isOf_2 : decode cX1_isOf 2 = .ok (.if_icmp .eq 8, 3) := by decide +kernel
theorem dX1_isOf_5 : decode cX1_isOf 5 = .ok (.iload_n 0, 1) := by decide +kernel
theorem dX1_isOf_6 : decode cX1_isOf 6 = .ok (.iload_n 1, 1) := by decide +kernel
theorem dX1_isOf_7 : decode cX1_isOf 7 = .ok (.if_icmp .ne 7, 3) := by decide +kernel
theorem dX1_isOf_10 : decode cX1_isOf 10 = .ok (.iconst 1, 1) := by decide +kernel
theorem dX1_isOf_11 : decode cX1_isOf 11 = .ok (.goto 4, 3) := by decide +kernel
theorem dX1_isOf_14 : decode cX1_isOf 14 = .ok (.iconst 0, 1) := by decide +kernel
theorem dX1_isOf_15 : decode cX1_isOf 15 = .ok (.ireturn, 1) := by decide +kernel
theorem dX1_whyNot_0 : decode cX1_whyNot 0 = .ok (.aload_n 0, 1) := by decide +kernel
theorem dX1_whyNot_1 : decode cX1_whyNot 1 = .ok (.iload_n 1, 1) := by decide +kernel
theorem dX1_whyNot_2 : decode cX1_whyNot 2 = .ok (.invokevirtual 75, 3) := by decide +kernel
theorem dX1_whyNot_5 : decode cX1_whyNot 5 = .ok (.ifCond .eq 19, 3) := by decide +kernel
theorem dX1_whyNot_8 : decode cX1_whyNot 8 = .ok (.aload_n 0, 1) := by decide +kernel
theorem dX1_whyNot_9 : decode cX1_whyNot 9 = .ok (.iload_n 2, 1) := by decide +kernel
theorem dX1_whyNot_10 : decode cX1_whyNot 10 = .ok (.invokevirtual 61, 3) := by decide +kernel
theorem dX1_whyNot_13 : decode cX1_whyNot 13 = .ok (.ifCond .eq 11, 3) := by decide +kernel
theorem dX1_whyNot_16 : decode cX1_whyNot 16 = .ok (.aload_n 0, 1) := by decide +kernel
theorem dX1_whyNot_17 : decode cX1_whyNot 17 = .ok (.iload_n 3, 1) := by decide +kernel
theorem dX1_whyNot_18 : decode cX1_whyNot 18 = .ok (.invokevirtual 61, 3) := by decide +kernel
theorem dX1_whyNot_21 : decode cX1_whyNot 21 = .ok (.ifCond .ne 5, 3) := by decide +kernel
theorem dX1_whyNot_24 : decode cX1_whyNot 24 = .ok (.iconst 1, 1) := by decide +kernel
theorem dX1_whyNot_25 : decode cX1_whyNot 25 = .ok (.ireturn, 1) := by decide +kernel
theorem dX1_whyNot_26 : decode cX1_whyNot 26 = .ok (.aload_n 0, 1) := by decide +kernel
theorem dX1_whyNot_27 : decode cX1_whyNot 27 = .ok (.getfield 13, 3) := by decide +kernel
theorem dX1_whyNot_30 : decode cX1_whyNot 30 = .ok (.iload_n 1, 1) := by decide +kernel
theorem dX1_whyNot_31 : decode cX1_whyNot 31 = .ok (.iaload, 1) := by decide +kernel
theorem dX1_whyNot_32 : decode cX1_whyNot 32 = .ok (.bipush 10, 2) := by decide +kernel
theorem dX1_whyNot_34 : decode cX1_whyNot 34 = .ok (.if_icmp .lt 5, 3) := by decide +kernel
theorem dX1_whyNot_37 : decode cX1_whyNot 37 = .ok (.iconst 2, 1) := by decide +kernel
theorem dX1_whyNot_38 : decode cX1_whyNot 38 = .ok (.ireturn, 1) := by decide +kernel
theorem dX1_whyNot_39 : decode cX1_whyNot 39 = .ok (.aload_n 0, 1) := by decide +kernel
theorem dX1_whyNot_40 : decode cX1_whyNot 40 = .ok (.getfield 7, 3) := by decide +kernel
theorem dX1_whyNot_43 : decode cX1_whyNot 43 = .ok (.iload_n 2, 1) := by decide +kernel
theorem dX1_whyNot_44 : decode cX1_whyNot 44 = .ok (.iaload, 1) := by decide +kernel
theorem dX1_whyNot_45 : decode cX1_whyNot 45 = .ok (.aload_n 0, 1) := by decide +kernel
theorem dX1_whyNot_46 : decode cX1_whyNot 46 = .ok (.getfield 16, 3) := by decide +kernel
theorem dX1_whyNot_49 : decode cX1_whyNot 49 = .ok (.iload_n 1, 1) := by decide +kernel
theorem dX1_whyNot_50 : decode cX1_whyNot 50 = .ok (.iaload, 1) := by decide +kernel
theorem dX1_whyNot_51 : decode cX1_whyNot 51 = .ok (.invokestatic 85, 3) := by decide +kernel
theorem dX1_whyNot_54 : decode cX1_whyNot 54 = .ok (.ifCond .eq 40, 3) := by decide +kernel
theorem dX1_whyNot_57 : decode cX1_whyNot 57 = .ok (.aload_n 0, 1) := by decide +kernel
theorem dX1_whyNot_58 : decode cX1_whyNot 58 = .ok (.getfield 7, 3) := by decide +kernel
theorem dX1_whyNot_61 : decode cX1_whyNot 61 = .ok (.iload_n 3, 1) := by decide +kernel
theorem dX1_whyNot_62 : decode cX1_whyNot 62 = .ok (.iaload, 1) := by decide +kernel
theorem dX1_whyNot_63 : decode cX1_whyNot 63 = .ok (.aload_n 0, 1) := by decide +kernel
theorem dX1_whyNot_64 : decode cX1_whyNot 64 = .ok (.getfield 19, 3) := by decide +kernel
theorem dX1_whyNot_67 : decode cX1_whyNot 67 = .ok (.iload_n 1, 1) := by decide +kernel
theorem dX1_whyNot_68 : decode cX1_whyNot 68 = .ok (.iaload, 1) := by decide +kernel
theorem dX1_whyNot_69 : decode cX1_whyNot 69 = .ok (.invokestatic 85, 3) := by decide +kernel
theorem dX1_whyNot_72 : decode cX1_whyNot 72 = .ok (.ifCond .eq 22, 3) := by decide +kernel
theorem dX1_whyNot_75 : decode cX1_whyNot 75 = .ok (.aload_n 0, 1) := by decide +kernel
theorem dX1_whyNot_76 : decode cX1_whyNot 76 = .ok (.getfield 13, 3) := by decide +kernel
theorem dX1_whyNot_79 : decode cX1_whyNot 79 = .ok (.iload_n 1, 1) := by decide +kernel
theorem dX1_whyNot_80 : decode cX1_whyNot 80 = .ok (.iaload, 1) := by decide +kernel
theorem dX1_whyNot_81 : decode cX1_whyNot 81 = .ok (.iconst 4, 1) := by decide +kernel
theorem dX1_whyNot_82 : decode cX1_whyNot 82 = .ok (.if_icmp .ne 8, 3) := by decide +kernel
theorem dX1_whyNot_85 : decode cX1_whyNot 85 = .ok (.iload_n 2, 1) := by decide +kernel
theorem dX1_whyNot_86 : decode cX1_whyNot 86 = .ok (.iload_n 3, 1) := by decide +kernel
theorem dX1_whyNot_87 : decode cX1_whyNot 87 = .ok (.if_icmp .eq 7, 3) := by decide +kernel
theorem dX1_whyNot_90 : decode cX1_whyNot 90 = .ok (.iconst 1, 1) := by decide +kernel
theorem dX1_whyNot_91 : decode cX1_whyNot 91 = .ok (.goto 4, 3) := by decide +kernel
theorem dX1_whyNot_94 : decode cX1_whyNot 94 = .ok (.iconst 0, 1) := by decide +kernel
theorem dX1_whyNot_95 : decode cX1_whyNot 95 = .ok (.istore 4, 2) := by decide +kernel
theorem dX1_whyNot_97 : decode cX1_whyNot 97 = .ok (.iload 4, 2) := by decide +kernel
theorem dX1_whyNot_99 : decode cX1_whyNot 99 = .ok (.ifCond .eq 7, 3) := by decide +kernel
theorem dX1_whyNot_102 : decode cX1_whyNot 102 = .ok (.iconst 0, 1) := by decide +kernel
theorem dX1_whyNot_103 : decode cX1_whyNot 103 = .ok (.goto 4, 3) := by decide +kernel
theorem dX1_whyNot_106 : decode cX1_whyNot 106 = .ok (.iconst 1, 1) := by decide +kernel
theorem dX1_whyNot_107 : decode cX1_whyNot 107 = .ok (.ireturn, 1) := by decide +kernel
theorem dX1_put_0 : decode cX1_put 0 = .ok (.aload_n 0, 1) := by decide +kernel
theorem dX1_put_1 : decode cX1_put 1 = .ok (.getfield 22, 3) := by decide +kernel
theorem dX1_put_4 : decode cX1_put 4 = .ok (.iload_n 1, 1) := by decide +kernel
theorem dX1_put_5 : decode cX1_put 5 = .ok (.iload_n 2, 1) := by decide +kernel
theorem dX1_put_6 : decode cX1_put 6 = .ok (.iload_n 3, 1) := by decide +kernel
theorem dX1_put_7 : decode cX1_put 7 = .ok (.invokestatic 68, 3) := by decide +kernel
theorem dX1_put_10 : decode cX1_put 10 = .ok (.iload 4, 2) := by decide +kernel
theorem dX1_put_12 : decode cX1_put 12 = .ok (.bastore, 1) := by decide +kernel
theorem dX1_put_13 : decode cX1_put 13 = .ok (.aload_n 0, 1) := by decide +kernel
theorem dX1_put_14 : decode cX1_put 14 = .ok (.getfield 13, 3) := by decide +kernel
theorem dX1_put_17 : decode cX1_put 17 = .ok (.iload_n 1, 1) := by decide +kernel
theorem dX1_put_18 : decode cX1_put 18 = .ok (.iaload, 1) := by decide +kernel
theorem dX1_put_19 : decode cX1_put 19 = .ok (.iconst 4, 1) := by decide +kernel
theorem dX1_put_20 : decode cX1_put 20 = .ok (.if_icmp .eq 13, 3) := by decide +kernel
theorem dX1_put_23 : decode cX1_put 23 = .ok (.aload_n 0, 1) := by decide +kernel
theorem dX1_put_24 : decode cX1_put 24 = .ok (.getfield 13, 3) := by decide +kernel
theorem dX1_put_27 : decode cX1_put 27 = .ok (.iload_n 1, 1) := by decide +kernel
theorem dX1_put_28 : decode cX1_put 28 = .ok (.iaload, 1) := by decide +kernel
theorem dX1_put_29 : decode cX1_put 29 = .ok (.iconst 5, 1) := by decide +kernel
theorem dX1_put_30 : decode cX1_put 30 = .ok (.if_icmp .ne 16, 3) := by decide +kernel
theorem dX1_put_33 : decode cX1_put 33 = .ok (.aload_n 0, 1) := by decide +kernel
theorem dX1_put_34 : decode cX1_put 34 = .ok (.getfield 22, 3) := by decide +kernel
theorem dX1_put_37 : decode cX1_put 37 = .ok (.iload_n 1, 1) := by decide +kernel
theorem dX1_put_38 : decode cX1_put 38 = .ok (.iload_n 3, 1) := by decide +kernel
theorem dX1_put_39 : decode cX1_put 39 = .ok (.iload_n 2, 1) := by decide +kernel
theorem dX1_put_40 : decode cX1_put 40 = .ok (.invokestatic 68, 3) := by decide +kernel
theorem dX1_put_43 : decode cX1_put 43 = .ok (.iload 4, 2) := by decide +kernel
theorem dX1_put_45 : decode cX1_put 45 = .ok (.bastore, 1) := by decide +kernel
theorem dX1_put_46 : decode cX1_put 46 = .ok (.return_, 1) := by decide +kernel
theorem dX1_push_0 : decode cX1_push 0 = .ok (.aload_n 0, 1) := by decide +kernel
theorem dX1_push_1 : decode cX1_push 1 = .ok (.iload_n 1, 1) := by decide +kernel
theorem dX1_push_2 : decode cX1_push 2 = .ok (.iload_n 2, 1) := by decide +kernel
theorem dX1_push_3 : decode cX1_push 3 = .ok (.iload_n 3, 1) := by decide +kernel
theorem dX1_push_4 : decode cX1_push 4 = .ok (.iconst 0, 1) := by decide +kernel
theorem dX1_push_5 : decode cX1_push 5 = .ok (.invokevirtual 89, 3) := by decide +kernel
theorem dX1_push_8 : decode cX1_push 8 = .ok (.aload_n 0, 1) := by decide +kernel
theorem dX1_push_9 : decode cX1_push 9 = .ok (.getfield 26, 3) := by decide +kernel
theorem dX1_push_12 : decode cX1_push 12 = .ok (.aload_n 0, 1) := by decide +kernel
theorem dX1_push_13 : decode cX1_push 13 = .ok (.getfield 54, 3) := by decide +kernel
theorem dX1_push_16 : decode cX1_push 16 = .ok (.iload_n 2, 1) := by decide +kernel
theorem dX1_push_17 : decode cX1_push 17 = .ok (.iastore, 1) := by decide +kernel
theorem dX1_push_18 : decode cX1_push 18 = .ok (.aload_n 0, 1) := by decide +kernel
theorem dX1_push_19 : decode cX1_push 19 = .ok (.getfield 29, 3) := by decide +kernel
theorem dX1_push_22 : decode cX1_push 22 = .ok (.aload_n 0, 1) := by decide +kernel
theorem dX1_push_23 : decode cX1_push 23 = .ok (.getfield 54, 3) := by decide +kernel
theorem dX1_push_26 : decode cX1_push 26 = .ok (.iload_n 3, 1) := by decide +kernel
theorem dX1_push_27 : decode cX1_push 27 = .ok (.iastore, 1) := by decide +kernel
theorem dX1_push_28 : decode cX1_push 28 = .ok (.aload_n 0, 1) := by decide +kernel
theorem dX1_push_29 : decode cX1_push 29 = .ok (.dup, 1) := by decide +kernel
theorem dX1_push_30 : decode cX1_push 30 = .ok (.getfield 54, 3) := by decide +kernel
theorem dX1_push_33 : decode cX1_push 33 = .ok (.iconst 1, 1) := by decide +kernel
theorem dX1_push_34 : decode cX1_push 34 = .ok (.iadd, 1) := by decide +kernel
theorem dX1_push_35 : decode cX1_push 35 = .ok (.putfield 54, 3) := by decide +kernel
theorem dX1_push_38 : decode cX1_push 38 = .ok (.return_, 1) := by decide +kernel
theorem dX1_pushFrom_0 : decode cX1_pushFrom 0 = .ok (.iconst 0, 1) := by decide +kernel
theorem dX1_pushFrom_1 : decode cX1_pushFrom 1 = .ok (.istore_n 3, 1) := by decide +kernel
theorem dX1_pushFrom_2 : decode cX1_pushFrom 2 = .ok (.iload_n 3, 1) := by decide +kernel
theorem dX1_pushFrom_3 : decode cX1_pushFrom 3 = .ok (.aload_n 0, 1) := by decide +kernel
theorem dX1_pushFrom_4 : decode cX1_pushFrom 4 = .ok (.getfield 41, 3) := by decide +kernel
theorem dX1_pushFrom_7 : decode cX1_pushFrom 7 = .ok (.if_icmp .ge 30, 3) := by decide +kernel
theorem dX1_pushFrom_10 : decode cX1_pushFrom 10 = .ok (.aload_n 0, 1) := by decide +kernel
theorem dX1_pushFrom_11 : decode cX1_pushFrom 11 = .ok (.getfield 22, 3) := by decide +kernel
theorem dX1_pushFrom_14 : decode cX1_pushFrom 14 = .ok (.iload_n 1, 1) := by decide +kernel
theorem dX1_pushFrom_15 : decode cX1_pushFrom 15 = .ok (.iload_n 2, 1) := by decide +kernel
theorem dX1_pushFrom_16 : decode cX1_pushFrom 16 = .ok (.iload_n 3, 1) := by decide +kernel
theorem dX1_pushFrom_17 : decode cX1_pushFrom 17 = .ok (.invokestatic 68, 3) := by decide +kernel
theorem dX1_pushFrom_20 : decode cX1_pushFrom 20 = .ok (.baload, 1) := by decide +kernel
theorem dX1_pushFrom_21 : decode cX1_pushFrom 21 = .ok (.ifCond .eq 10, 3) := by decide +kernel
theorem dX1_pushFrom_24 : decode cX1_pushFrom 24 = .ok (.aload_n 0, 1) := by decide +kernel
theorem dX1_pushFrom_25 : decode cX1_pushFrom 25 = .ok (.iload_n 1, 1) := by decide +kernel
theorem dX1_pushFrom_26 : decode cX1_pushFrom 26 = .ok (.iload_n 2, 1) := by decide +kernel
theorem dX1_pushFrom_27 : decode cX1_pushFrom 27 = .ok (.iload_n 3, 1) := by decide +kernel
theorem dX1_pushFrom_28 : decode cX1_pushFrom 28 = .ok (.invokevirtual 93, 3) := by decide +kernel
theorem dX1_pushFrom_31 : decode cX1_pushFrom 31 = .ok (.iinc 3 1, 3) := by decide +kernel
theorem dX1_pushFrom_34 : decode cX1_pushFrom 34 = .ok (.goto (-32), 3) := by decide +kernel
theorem dX1_pushFrom_37 : decode cX1_pushFrom 37 = .ok (.return_, 1) := by decide +kernel
theorem dX1_pushTo_0 : decode cX1_pushTo 0 = .ok (.iconst 0, 1) := by decide +kernel
theorem dX1_pushTo_1 : decode cX1_pushTo 1 = .ok (.istore_n 3, 1) := by decide +kernel
theorem dX1_pushTo_2 : decode cX1_pushTo 2 = .ok (.iload_n 3, 1) := by decide +kernel
theorem dX1_pushTo_3 : decode cX1_pushTo 3 = .ok (.aload_n 0, 1) := by decide +kernel
theorem dX1_pushTo_4 : decode cX1_pushTo 4 = .ok (.getfield 41, 3) := by decide +kernel
theorem dX1_pushTo_7 : decode cX1_pushTo 7 = .ok (.if_icmp .ge 30, 3) := by decide +kernel
theorem dX1_pushTo_10 : decode cX1_pushTo 10 = .ok (.aload_n 0, 1) := by decide +kernel
theorem dX1_pushTo_11 : decode cX1_pushTo 11 = .ok (.getfield 22, 3) := by decide +kernel
theorem dX1_pushTo_14 : decode cX1_pushTo 14 = .ok (.iload_n 1, 1) := by decide +kernel
theorem dX1_pushTo_15 : decode cX1_pushTo 15 = .ok (.iload_n 3, 1) := by decide +kernel
theorem dX1_pushTo_16 : decode cX1_pushTo 16 = .ok (.iload_n 2, 1) := by decide +kernel
theorem dX1_pushTo_17 : decode cX1_pushTo 17 = .ok (.invokestatic 68, 3) := by decide +kernel
theorem dX1_pushTo_20 : decode cX1_pushTo 20 = .ok (.baload, 1) := by decide +kernel
theorem dX1_pushTo_21 : decode cX1_pushTo 21 = .ok (.ifCond .eq 10, 3) := by decide +kernel
theorem dX1_pushTo_24 : decode cX1_pushTo 24 = .ok (.aload_n 0, 1) := by decide +kernel
theorem dX1_pushTo_25 : decode cX1_pushTo 25 = .ok (.iload_n 1, 1) := by decide +kernel
theorem dX1_pushTo_26 : decode cX1_pushTo 26 = .ok (.iload_n 3, 1) := by decide +kernel
theorem dX1_pushTo_27 : decode cX1_pushTo 27 = .ok (.iload_n 2, 1) := by decide +kernel
theorem dX1_pushTo_28 : decode cX1_pushTo 28 = .ok (.invokevirtual 93, 3) := by decide +kernel
theorem dX1_pushTo_31 : decode cX1_pushTo 31 = .ok (.iinc 3 1, 3) := by decide +kernel
theorem dX1_pushTo_34 : decode cX1_pushTo 34 = .ok (.goto (-32), 3) := by decide +kernel
theorem dX1_pushTo_37 : decode cX1_pushTo 37 = .ok (.return_, 1) := by decide +kernel
theorem dX1_join_0 : decode cX1_join 0 = .ok (.iconst 0, 1) := by decide +kernel
theorem dX1_join_1 : decode cX1_join 1 = .ok (.istore 4, 2) := by decide +kernel
theorem dX1_join_3 : decode cX1_join 3 = .ok (.iload 4, 2) := by decide +kernel
theorem dX1_join_5 : decode cX1_join 5 = .ok (.aload_n 0, 1) := by decide +kernel
theorem dX1_join_6 : decode cX1_join 6 = .ok (.getfield 41, 3) := by decide +kernel
theorem dX1_join_9 : decode cX1_join 9 = .ok (.if_icmp .ge 85, 3) := by decide +kernel
theorem dX1_join_12 : decode cX1_join 12 = .ok (.iconst 0, 1) := by decide +kernel
theorem dX1_join_13 : decode cX1_join 13 = .ok (.istore 5, 2) := by decide +kernel
theorem dX1_join_15 : decode cX1_join 15 = .ok (.iload 5, 2) := by decide +kernel
theorem dX1_join_17 : decode cX1_join 17 = .ok (.aload_n 0, 1) := by decide +kernel
theorem dX1_join_18 : decode cX1_join 18 = .ok (.getfield 41, 3) := by decide +kernel
theorem dX1_join_21 : decode cX1_join 21 = .ok (.if_icmp .ge 67, 3) := by decide +kernel
theorem dX1_join_24 : decode cX1_join 24 = .ok (.aload_n 0, 1) := by decide +kernel
theorem dX1_join_25 : decode cX1_join 25 = .ok (.getfield 22, 3) := by decide +kernel
theorem dX1_join_28 : decode cX1_join 28 = .ok (.iload_n 1, 1) := by decide +kernel
theorem dX1_join_29 : decode cX1_join 29 = .ok (.iload_n 2, 1) := by decide +kernel
theorem dX1_join_30 : decode cX1_join 30 = .ok (.iload 4, 2) := by decide +kernel
theorem dX1_join_32 : decode cX1_join 32 = .ok (.invokestatic 68, 3) := by decide +kernel
theorem dX1_join_35 : decode cX1_join 35 = .ok (.baload, 1) := by decide +kernel
theorem dX1_join_36 : decode cX1_join 36 = .ok (.ifCond .eq 46, 3) := by decide +kernel
theorem dX1_join_39 : decode cX1_join 39 = .ok (.aload_n 0, 1) := by decide +kernel
theorem dX1_join_40 : decode cX1_join 40 = .ok (.getfield 22, 3) := by decide +kernel
theorem dX1_join_43 : decode cX1_join 43 = .ok (.iload_n 1, 1) := by decide +kernel
theorem dX1_join_44 : decode cX1_join 44 = .ok (.iload_n 3, 1) := by decide +kernel
theorem dX1_join_45 : decode cX1_join 45 = .ok (.iload 5, 2) := by decide +kernel
theorem dX1_join_47 : decode cX1_join 47 = .ok (.invokestatic 68, 3) := by decide +kernel
theorem dX1_join_50 : decode cX1_join 50 = .ok (.baload, 1) := by decide +kernel
theorem dX1_join_51 : decode cX1_join 51 = .ok (.ifCond .eq 31, 3) := by decide +kernel
theorem dX1_join_54 : decode cX1_join 54 = .ok (.aload_n 0, 1) := by decide +kernel
theorem dX1_join_55 : decode cX1_join 55 = .ok (.getfield 35, 3) := by decide +kernel
theorem dX1_join_58 : decode cX1_join 58 = .ok (.bipush 40, 2) := by decide +kernel
theorem dX1_join_60 : decode cX1_join 60 = .ok (.iload 4, 2) := by decide +kernel
theorem dX1_join_62 : decode cX1_join 62 = .ok (.imul, 1) := by decide +kernel
theorem dX1_join_63 : decode cX1_join 63 = .ok (.iload 5, 2) := by decide +kernel
theorem dX1_join_65 : decode cX1_join 65 = .ok (.iadd, 1) := by decide +kernel
theorem dX1_join_66 : decode cX1_join 66 = .ok (.iconst 1, 1) := by decide +kernel
theorem dX1_join_67 : decode cX1_join 67 = .ok (.bastore, 1) := by decide +kernel
theorem dX1_join_68 : decode cX1_join 68 = .ok (.aload_n 0, 1) := by decide +kernel
theorem dX1_join_69 : decode cX1_join 69 = .ok (.getfield 35, 3) := by decide +kernel
theorem dX1_join_72 : decode cX1_join 72 = .ok (.bipush 40, 2) := by decide +kernel
theorem dX1_join_74 : decode cX1_join 74 = .ok (.iload 5, 2) := by decide +kernel
theorem dX1_join_76 : decode cX1_join 76 = .ok (.imul, 1) := by decide +kernel
theorem dX1_join_77 : decode cX1_join 77 = .ok (.iload 4, 2) := by decide +kernel
theorem dX1_join_79 : decode cX1_join 79 = .ok (.iadd, 1) := by decide +kernel
theorem dX1_join_80 : decode cX1_join 80 = .ok (.iconst 1, 1) := by decide +kernel
theorem dX1_join_81 : decode cX1_join 81 = .ok (.bastore, 1) := by decide +kernel
theorem dX1_join_82 : decode cX1_join 82 = .ok (.iinc 5 1, 3) := by decide +kernel
theorem dX1_join_85 : decode cX1_join 85 = .ok (.goto (-70), 3) := by decide +kernel
theorem dX1_join_88 : decode cX1_join 88 = .ok (.iinc 4 1, 3) := by decide +kernel
theorem dX1_join_91 : decode cX1_join 91 = .ok (.goto (-88), 3) := by decide +kernel
theorem dX1_join_94 : decode cX1_join 94 = .ok (.iconst 0, 1) := by decide +kernel
theorem dX1_join_95 : decode cX1_join 95 = .ok (.istore 4, 2) := by decide +kernel
theorem dX1_join_97 : decode cX1_join 97 = .ok (.iload 4, 2) := by decide +kernel
theorem dX1_join_99 : decode cX1_join 99 = .ok (.sipush 1600, 3) := by decide +kernel
theorem dX1_join_102 : decode cX1_join 102 = .ok (.if_icmp .ge 61, 3) := by decide +kernel
theorem dX1_join_105 : decode cX1_join 105 = .ok (.aload_n 0, 1) := by decide +kernel
theorem dX1_join_106 : decode cX1_join 106 = .ok (.getfield 22, 3) := by decide +kernel
theorem dX1_join_109 : decode cX1_join 109 = .ok (.sipush 1600, 3) := by decide +kernel
theorem dX1_join_112 : decode cX1_join 112 = .ok (.iload_n 1, 1) := by decide +kernel
theorem dX1_join_113 : decode cX1_join 113 = .ok (.imul, 1) := by decide +kernel
theorem dX1_join_114 : decode cX1_join 114 = .ok (.iload 4, 2) := by decide +kernel
theorem dX1_join_116 : decode cX1_join 116 = .ok (.iadd, 1) := by decide +kernel
theorem dX1_join_117 : decode cX1_join 117 = .ok (.aload_n 0, 1) := by decide +kernel
theorem dX1_join_118 : decode cX1_join 118 = .ok (.getfield 22, 3) := by decide +kernel
theorem dX1_join_121 : decode cX1_join 121 = .ok (.sipush 1600, 3) := by decide +kernel
theorem dX1_join_124 : decode cX1_join 124 = .ok (.iload_n 1, 1) := by decide +kernel
theorem dX1_join_125 : decode cX1_join 125 = .ok (.imul, 1) := by decide +kernel
theorem dX1_join_126 : decode cX1_join 126 = .ok (.iload 4, 2) := by decide +kernel
theorem dX1_join_128 : decode cX1_join 128 = .ok (.iadd, 1) := by decide +kernel
theorem dX1_join_129 : decode cX1_join 129 = .ok (.baload, 1) := by decide +kernel
theorem dX1_join_130 : decode cX1_join 130 = .ok (.ifCond .ne 13, 3) := by decide +kernel
theorem dX1_join_133 : decode cX1_join 133 = .ok (.aload_n 0, 1) := by decide +kernel
theorem dX1_join_134 : decode cX1_join 134 = .ok (.getfield 35, 3) := by decide +kernel
theorem dX1_join_137 : decode cX1_join 137 = .ok (.iload 4, 2) := by decide +kernel
theorem dX1_join_139 : decode cX1_join 139 = .ok (.baload, 1) := by decide +kernel
theorem dX1_join_140 : decode cX1_join 140 = .ok (.ifCond .eq 7, 3) := by decide +kernel
theorem dX1_join_143 : decode cX1_join 143 = .ok (.iconst 1, 1) := by decide +kernel
theorem dX1_join_144 : decode cX1_join 144 = .ok (.goto 4, 3) := by decide +kernel
theorem dX1_join_147 : decode cX1_join 147 = .ok (.iconst 0, 1) := by decide +kernel
theorem dX1_join_148 : decode cX1_join 148 = .ok (.bastore, 1) := by decide +kernel
theorem dX1_join_149 : decode cX1_join 149 = .ok (.aload_n 0, 1) := by decide +kernel
theorem dX1_join_150 : decode cX1_join 150 = .ok (.getfield 35, 3) := by decide +kernel
theorem dX1_join_153 : decode cX1_join 153 = .ok (.iload 4, 2) := by decide +kernel
theorem dX1_join_155 : decode cX1_join 155 = .ok (.iconst 0, 1) := by decide +kernel
theorem dX1_join_156 : decode cX1_join 156 = .ok (.bastore, 1) := by decide +kernel
theorem dX1_join_157 : decode cX1_join 157 = .ok (.iinc 4 1, 3) := by decide +kernel
theorem dX1_join_160 : decode cX1_join 160 = .ok (.goto (-63), 3) := by decide +kernel
theorem dX1_join_163 : decode cX1_join 163 = .ok (.return_, 1) := by decide +kernel
theorem dX1_set_0 : decode cX1_set 0 = .ok (.aload_n 0, 1) := by decide +kernel
theorem dX1_set_1 : decode cX1_set 1 = .ok (.aload_n 0, 1) := by decide +kernel
theorem dX1_set_2 : decode cX1_set 2 = .ok (.iload_n 1, 1) := by decide +kernel
theorem dX1_set_3 : decode cX1_set 3 = .ok (.iload_n 2, 1) := by decide +kernel
theorem dX1_set_4 : decode cX1_set 4 = .ok (.iload_n 3, 1) := by decide +kernel
theorem dX1_set_5 : decode cX1_set 5 = .ok (.invokevirtual 97, 3) := by decide +kernel
theorem dX1_set_8 : decode cX1_set 8 = .ok (.invokevirtual 65, 3) := by decide +kernel
theorem dX1_set_11 : decode cX1_set 11 = .ok (.ifCond .ne 5, 3) := by decide +kernel
theorem dX1_set_14 : decode cX1_set 14 = .ok (.iconst 0, 1) := by decide +kernel
theorem dX1_set_15 : decode cX1_set 15 = .ok (.ireturn, 1) := by decide +kernel
theorem dX1_set_16 : decode cX1_set 16 = .ok (.aload_n 0, 1) := by decide +kernel
theorem dX1_set_17 : decode cX1_set 17 = .ok (.iconst 0, 1) := by decide +kernel
theorem dX1_set_18 : decode cX1_set 18 = .ok (.putfield 54, 3) := by decide +kernel
theorem dX1_set_21 : decode cX1_set 21 = .ok (.aload_n 0, 1) := by decide +kernel
theorem dX1_set_22 : decode cX1_set 22 = .ok (.getfield 32, 3) := by decide +kernel
theorem dX1_set_25 : decode cX1_set 25 = .ok (.bipush 40, 2) := by decide +kernel
theorem dX1_set_27 : decode cX1_set 27 = .ok (.iload_n 2, 1) := by decide +kernel
theorem dX1_set_28 : decode cX1_set 28 = .ok (.imul, 1) := by decide +kernel
theorem dX1_set_29 : decode cX1_set 29 = .ok (.iload_n 3, 1) := by decide +kernel
theorem dX1_set_30 : decode cX1_set 30 = .ok (.iadd, 1) := by decide +kernel
theorem dX1_set_31 : decode cX1_set 31 = .ok (.dup2, 1) := by decide +kernel
theorem dX1_set_32 : decode cX1_set 32 = .ok (.iaload, 1) := by decide +kernel
theorem dX1_set_33 : decode cX1_set 33 = .ok (.iconst 1, 1) := by decide +kernel
theorem dX1_set_34 : decode cX1_set 34 = .ok (.iadd, 1) := by decide +kernel
theorem dX1_set_35 : decode cX1_set 35 = .ok (.iastore, 1) := by decide +kernel
theorem dX1_set_36 : decode cX1_set 36 = .ok (.aload_n 0, 1) := by decide +kernel
theorem dX1_set_37 : decode cX1_set 37 = .ok (.getfield 22, 3) := by decide +kernel
theorem dX1_set_40 : decode cX1_set 40 = .ok (.iload_n 1, 1) := by decide +kernel
theorem dX1_set_41 : decode cX1_set 41 = .ok (.iload_n 2, 1) := by decide +kernel
theorem dX1_set_42 : decode cX1_set 42 = .ok (.iload_n 3, 1) := by decide +kernel
theorem dX1_set_43 : decode cX1_set 43 = .ok (.invokestatic 68, 3) := by decide +kernel
theorem dX1_set_46 : decode cX1_set 46 = .ok (.baload, 1) := by decide +kernel
theorem dX1_set_47 : decode cX1_set 47 = .ok (.ifCond .eq 5, 3) := by decide +kernel
theorem dX1_set_50 : decode cX1_set 50 = .ok (.iconst 0, 1) := by decide +kernel
theorem dX1_set_51 : decode cX1_set 51 = .ok (.ireturn, 1) := by decide +kernel
theorem dX1_set_52 : decode cX1_set 52 = .ok (.aload_n 0, 1) := by decide +kernel
theorem dX1_set_53 : decode cX1_set 53 = .ok (.getfield 13, 3) := by decide +kernel
theorem dX1_set_56 : decode cX1_set 56 = .ok (.iload_n 1, 1) := by decide +kernel
theorem dX1_set_57 : decode cX1_set 57 = .ok (.iaload, 1) := by decide +kernel
theorem dX1_set_58 : decode cX1_set 58 = .ok (.istore 4, 2) := by decide +kernel
theorem dX1_set_60 : decode cX1_set 60 = .ok (.iload 4, 2) := by decide +kernel
theorem dX1_set_62 : decode cX1_set 62 = .ok (.ifCond .eq 15, 3) := by decide +kernel
theorem dX1_set_65 : decode cX1_set 65 = .ok (.iload 4, 2) := by decide +kernel
theorem dX1_set_67 : decode cX1_set 67 = .ok (.iconst 2, 1) := by decide +kernel
theorem dX1_set_68 : decode cX1_set 68 = .ok (.if_icmp .eq 9, 3) := by decide +kernel
theorem dX1_set_71 : decode cX1_set 71 = .ok (.iload 4, 2) := by decide +kernel
theorem dX1_set_73 : decode cX1_set 73 = .ok (.iconst 4, 1) := by decide +kernel
theorem dX1_set_74 : decode cX1_set 74 = .ok (.if_icmp .ne 9, 3) := by decide +kernel
theorem dX1_set_77 : decode cX1_set 77 = .ok (.aload_n 0, 1) := by decide +kernel
theorem dX1_set_78 : decode cX1_set 78 = .ok (.iload_n 1, 1) := by decide +kernel
theorem dX1_set_79 : decode cX1_set 79 = .ok (.iload_n 2, 1) := by decide +kernel
theorem dX1_set_80 : decode cX1_set 80 = .ok (.invokevirtual 100, 3) := by decide +kernel
theorem dX1_set_83 : decode cX1_set 83 = .ok (.iload 4, 2) := by decide +kernel
theorem dX1_set_85 : decode cX1_set 85 = .ok (.ifCond .eq 9, 3) := by decide +kernel
theorem dX1_set_88 : decode cX1_set 88 = .ok (.iload 4, 2) := by decide +kernel
theorem dX1_set_90 : decode cX1_set 90 = .ok (.iconst 1, 1) := by decide +kernel
theorem dX1_set_91 : decode cX1_set 91 = .ok (.if_icmp .ne 9, 3) := by decide +kernel
theorem dX1_set_94 : decode cX1_set 94 = .ok (.aload_n 0, 1) := by decide +kernel
theorem dX1_set_95 : decode cX1_set 95 = .ok (.iload_n 1, 1) := by decide +kernel
theorem dX1_set_96 : decode cX1_set 96 = .ok (.iload_n 3, 1) := by decide +kernel
theorem dX1_set_97 : decode cX1_set 97 = .ok (.invokevirtual 104, 3) := by decide +kernel
theorem dX1_set_100 : decode cX1_set 100 = .ok (.iload 4, 2) := by decide +kernel
theorem dX1_set_102 : decode cX1_set 102 = .ok (.iconst 4, 1) := by decide +kernel
theorem dX1_set_103 : decode cX1_set 103 = .ok (.if_icmp .ne 9, 3) := by decide +kernel
theorem dX1_set_106 : decode cX1_set 106 = .ok (.aload_n 0, 1) := by decide +kernel
theorem dX1_set_107 : decode cX1_set 107 = .ok (.iload_n 1, 1) := by decide +kernel
theorem dX1_set_108 : decode cX1_set 108 = .ok (.iload_n 3, 1) := by decide +kernel
theorem dX1_set_109 : decode cX1_set 109 = .ok (.invokevirtual 100, 3) := by decide +kernel
theorem dX1_set_112 : decode cX1_set 112 = .ok (.iload 4, 2) := by decide +kernel
theorem dX1_set_114 : decode cX1_set 114 = .ok (.bipush 6, 2) := by decide +kernel
theorem dX1_set_116 : decode cX1_set 116 = .ok (.if_icmp .ne 13, 3) := by decide +kernel
theorem dX1_set_119 : decode cX1_set 119 = .ok (.aload_n 0, 1) := by decide +kernel
theorem dX1_set_120 : decode cX1_set 120 = .ok (.iload_n 1, 1) := by decide +kernel
theorem dX1_set_121 : decode cX1_set 121 = .ok (.iload_n 2, 1) := by decide +kernel
theorem dX1_set_122 : decode cX1_set 122 = .ok (.iload_n 3, 1) := by decide +kernel
theorem dX1_set_123 : decode cX1_set 123 = .ok (.invokevirtual 107, 3) := by decide +kernel
theorem dX1_set_126 : decode cX1_set 126 = .ok (.goto 11, 3) := by decide +kernel
theorem dX1_set_129 : decode cX1_set 129 = .ok (.aload_n 0, 1) := by decide +kernel
theorem dX1_set_130 : decode cX1_set 130 = .ok (.iload_n 1, 1) := by decide +kernel
theorem dX1_set_131 : decode cX1_set 131 = .ok (.iload_n 2, 1) := by decide +kernel
theorem dX1_set_132 : decode cX1_set 132 = .ok (.iload_n 3, 1) := by decide +kernel
theorem dX1_set_133 : decode cX1_set 133 = .ok (.iconst 1, 1) := by decide +kernel
theorem dX1_set_134 : decode cX1_set 134 = .ok (.invokevirtual 89, 3) := by decide +kernel
theorem dX1_set_137 : decode cX1_set 137 = .ok (.aload_n 0, 1) := by decide +kernel
theorem dX1_set_138 : decode cX1_set 138 = .ok (.getfield 54, 3) := by decide +kernel
theorem dX1_set_141 : decode cX1_set 141 = .ok (.ireturn, 1) := by decide +kernel
theorem dX1_part_0 : decode cX1_part 0 = .ok (.iconst 0, 1) := by decide +kernel
theorem dX1_part_1 : decode cX1_part 1 = .ok (.istore_n 3, 1) := by decide +kernel
theorem dX1_part_2 : decode cX1_part 2 = .ok (.iload_n 3, 1) := by decide +kernel
theorem dX1_part_3 : decode cX1_part 3 = .ok (.aload_n 0, 1) := by decide +kernel
theorem dX1_part_4 : decode cX1_part 4 = .ok (.getfield 41, 3) := by decide +kernel
theorem dX1_part_7 : decode cX1_part 7 = .ok (.if_icmp .ge 51, 3) := by decide +kernel
theorem dX1_part_10 : decode cX1_part 10 = .ok (.aload_n 0, 1) := by decide +kernel
theorem dX1_part_11 : decode cX1_part 11 = .ok (.getfield 22, 3) := by decide +kernel
theorem dX1_part_14 : decode cX1_part 14 = .ok (.iload_n 1, 1) := by decide +kernel
theorem dX1_part_15 : decode cX1_part 15 = .ok (.iload_n 2, 1) := by decide +kernel
theorem dX1_part_16 : decode cX1_part 16 = .ok (.iload_n 3, 1) := by decide +kernel
theorem dX1_part_17 : decode cX1_part 17 = .ok (.invokestatic 68, 3) := by decide +kernel
theorem dX1_part_20 : decode cX1_part 20 = .ok (.iload_n 3, 1) := by decide +kernel
theorem dX1_part_21 : decode cX1_part 21 = .ok (.iload_n 2, 1) := by decide +kernel
theorem dX1_part_22 : decode cX1_part 22 = .ok (.if_icmp .ne 7, 3) := by decide +kernel
theorem dX1_part_25 : decode cX1_part 25 = .ok (.iconst 1, 1) := by decide +kernel
theorem dX1_part_26 : decode cX1_part 26 = .ok (.goto 4, 3) := by decide +kernel
theorem dX1_part_29 : decode cX1_part 29 = .ok (.iconst 0, 1) := by decide +kernel
theorem dX1_part_30 : decode cX1_part 30 = .ok (.bastore, 1) := by decide +kernel
theorem dX1_part_31 : decode cX1_part 31 = .ok (.aload_n 0, 1) := by decide +kernel
theorem dX1_part_32 : decode cX1_part 32 = .ok (.getfield 22, 3) := by decide +kernel
theorem dX1_part_35 : decode cX1_part 35 = .ok (.iload_n 1, 1) := by decide +kernel
theorem dX1_part_36 : decode cX1_part 36 = .ok (.iload_n 3, 1) := by decide +kernel
theorem dX1_part_37 : decode cX1_part 37 = .ok (.iload_n 2, 1) := by decide +kernel
theorem dX1_part_38 : decode cX1_part 38 = .ok (.invokestatic 68, 3) := by decide +kernel
theorem dX1_part_41 : decode cX1_part 41 = .ok (.iload_n 3, 1) := by decide +kernel
theorem dX1_part_42 : decode cX1_part 42 = .ok (.iload_n 2, 1) := by decide +kernel
theorem dX1_part_43 : decode cX1_part 43 = .ok (.if_icmp .ne 7, 3) := by decide +kernel
theorem dX1_part_46 : decode cX1_part 46 = .ok (.iconst 1, 1) := by decide +kernel
theorem dX1_part_47 : decode cX1_part 47 = .ok (.goto 4, 3) := by decide +kernel
theorem dX1_part_50 : decode cX1_part 50 = .ok (.iconst 0, 1) := by decide +kernel
theorem dX1_part_51 : decode cX1_part 51 = .ok (.bastore, 1) := by decide +kernel
theorem dX1_part_52 : decode cX1_part 52 = .ok (.iinc 3 1, 3) := by decide +kernel
theorem dX1_part_55 : decode cX1_part 55 = .ok (.goto (-53), 3) := by decide +kernel
theorem dX1_part_58 : decode cX1_part 58 = .ok (.return_, 1) := by decide +kernel
theorem dX1_drop_0 : decode cX1_drop 0 = .ok (.aload_n 0, 1) := by decide +kernel
theorem dX1_drop_1 : decode cX1_drop 1 = .ok (.aload_n 0, 1) := by decide +kernel
theorem dX1_drop_2 : decode cX1_drop 2 = .ok (.iload_n 1, 1) := by decide +kernel
theorem dX1_drop_3 : decode cX1_drop 3 = .ok (.iload_n 2, 1) := by decide +kernel
theorem dX1_drop_4 : decode cX1_drop 4 = .ok (.iload_n 3, 1) := by decide +kernel
theorem dX1_drop_5 : decode cX1_drop 5 = .ok (.invokevirtual 97, 3) := by decide +kernel
theorem dX1_drop_8 : decode cX1_drop 8 = .ok (.invokevirtual 65, 3) := by decide +kernel
theorem dX1_drop_11 : decode cX1_drop 11 = .ok (.ifCond .ne 5, 3) := by decide +kernel
theorem dX1_drop_14 : decode cX1_drop 14 = .ok (.iconst 0, 1) := by decide +kernel
theorem dX1_drop_15 : decode cX1_drop 15 = .ok (.ireturn, 1) := by decide +kernel
theorem dX1_drop_16 : decode cX1_drop 16 = .ok (.aload_n 0, 1) := by decide +kernel
theorem dX1_drop_17 : decode cX1_drop 17 = .ok (.getfield 22, 3) := by decide +kernel
theorem dX1_drop_20 : decode cX1_drop 20 = .ok (.iload_n 1, 1) := by decide +kernel
theorem dX1_drop_21 : decode cX1_drop 21 = .ok (.iload_n 2, 1) := by decide +kernel
theorem dX1_drop_22 : decode cX1_drop 22 = .ok (.iload_n 3, 1) := by decide +kernel
theorem dX1_drop_23 : decode cX1_drop 23 = .ok (.invokestatic 68, 3) := by decide +kernel
theorem dX1_drop_26 : decode cX1_drop 26 = .ok (.baload, 1) := by decide +kernel
theorem dX1_drop_27 : decode cX1_drop 27 = .ok (.istore 4, 2) := by decide +kernel
theorem dX1_drop_29 : decode cX1_drop 29 = .ok (.aload_n 0, 1) := by decide +kernel
theorem dX1_drop_30 : decode cX1_drop 30 = .ok (.getfield 13, 3) := by decide +kernel
theorem dX1_drop_33 : decode cX1_drop 33 = .ok (.iload_n 1, 1) := by decide +kernel
theorem dX1_drop_34 : decode cX1_drop 34 = .ok (.iaload, 1) := by decide +kernel
theorem dX1_drop_35 : decode cX1_drop 35 = .ok (.bipush 6, 2) := by decide +kernel
theorem dX1_drop_37 : decode cX1_drop 37 = .ok (.if_icmp .ne 35, 3) := by decide +kernel
theorem dX1_drop_40 : decode cX1_drop 40 = .ok (.iload 4, 2) := by decide +kernel
theorem dX1_drop_42 : decode cX1_drop 42 = .ok (.ifCond .eq 14, 3) := by decide +kernel
theorem dX1_drop_45 : decode cX1_drop 45 = .ok (.iload_n 2, 1) := by decide +kernel
theorem dX1_drop_46 : decode cX1_drop 46 = .ok (.iload_n 3, 1) := by decide +kernel
theorem dX1_drop_47 : decode cX1_drop 47 = .ok (.if_icmp .eq 9, 3) := by decide +kernel
theorem dX1_drop_50 : decode cX1_drop 50 = .ok (.aload_n 0, 1) := by decide +kernel
theorem dX1_drop_51 : decode cX1_drop 51 = .ok (.iload_n 1, 1) := by decide +kernel
theorem dX1_drop_52 : decode cX1_drop 52 = .ok (.iload_n 2, 1) := by decide +kernel
theorem dX1_drop_53 : decode cX1_drop 53 = .ok (.invokevirtual 110, 3) := by decide +kernel
theorem dX1_drop_56 : decode cX1_drop 56 = .ok (.iload 4, 2) := by decide +kernel
theorem dX1_drop_58 : decode cX1_drop 58 = .ok (.ifCond .eq 12, 3) := by decide +kernel
theorem dX1_drop_61 : decode cX1_drop 61 = .ok (.iload_n 2, 1) := by decide +kernel
theorem dX1_drop_62 : decode cX1_drop 62 = .ok (.iload_n 3, 1) := by decide +kernel
theorem dX1_drop_63 : decode cX1_drop 63 = .ok (.if_icmp .eq 7, 3) := by decide +kernel
theorem dX1_drop_66 : decode cX1_drop 66 = .ok (.iconst 1, 1) := by decide +kernel
theorem dX1_drop_67 : decode cX1_drop 67 = .ok (.goto 4, 3) := by decide +kernel
theorem dX1_drop_70 : decode cX1_drop 70 = .ok (.iconst 0, 1) := by decide +kernel
theorem dX1_drop_71 : decode cX1_drop 71 = .ok (.ireturn, 1) := by decide +kernel
theorem dX1_drop_72 : decode cX1_drop 72 = .ok (.aload_n 0, 1) := by decide +kernel
theorem dX1_drop_73 : decode cX1_drop 73 = .ok (.iload_n 1, 1) := by decide +kernel
theorem dX1_drop_74 : decode cX1_drop 74 = .ok (.iload_n 2, 1) := by decide +kernel
theorem dX1_drop_75 : decode cX1_drop 75 = .ok (.iload_n 3, 1) := by decide +kernel
theorem dX1_drop_76 : decode cX1_drop 76 = .ok (.iconst 0, 1) := by decide +kernel
theorem dX1_drop_77 : decode cX1_drop 77 = .ok (.invokevirtual 89, 3) := by decide +kernel
theorem dX1_drop_80 : decode cX1_drop 80 = .ok (.iload 4, 2) := by decide +kernel
theorem dX1_drop_82 : decode cX1_drop 82 = .ok (.ireturn, 1) := by decide +kernel
theorem dX1_countOf_0 : decode cX1_countOf 0 = .ok (.iconst 0, 1) := by decide +kernel
theorem dX1_countOf_1 : decode cX1_countOf 1 = .ok (.istore_n 2, 1) := by decide +kernel
theorem dX1_countOf_2 : decode cX1_countOf 2 = .ok (.iconst 0, 1) := by decide +kernel
theorem dX1_countOf_3 : decode cX1_countOf 3 = .ok (.istore_n 3, 1) := by decide +kernel
theorem dX1_countOf_4 : decode cX1_countOf 4 = .ok (.iload_n 3, 1) := by decide +kernel
theorem dX1_countOf_5 : decode cX1_countOf 5 = .ok (.sipush 1600, 3) := by decide +kernel
theorem dX1_countOf_8 : decode cX1_countOf 8 = .ok (.if_icmp .ge 32, 3) := by decide +kernel
theorem dX1_countOf_11 : decode cX1_countOf 11 = .ok (.iload_n 2, 1) := by decide +kernel
theorem dX1_countOf_12 : decode cX1_countOf 12 = .ok (.aload_n 0, 1) := by decide +kernel
theorem dX1_countOf_13 : decode cX1_countOf 13 = .ok (.getfield 22, 3) := by decide +kernel
theorem dX1_countOf_16 : decode cX1_countOf 16 = .ok (.sipush 1600, 3) := by decide +kernel
theorem dX1_countOf_19 : decode cX1_countOf 19 = .ok (.iload_n 1, 1) := by decide +kernel
theorem dX1_countOf_20 : decode cX1_countOf 20 = .ok (.imul, 1) := by decide +kernel
theorem dX1_countOf_21 : decode cX1_countOf 21 = .ok (.iload_n 3, 1) := by decide +kernel
theorem dX1_countOf_22 : decode cX1_countOf 22 = .ok (.iadd, 1) := by decide +kernel
theorem dX1_countOf_23 : decode cX1_countOf 23 = .ok (.baload, 1) := by decide +kernel
theorem dX1_countOf_24 : decode cX1_countOf 24 = .ok (.ifCond .eq 7, 3) := by decide +kernel
theorem dX1_countOf_27 : decode cX1_countOf 27 = .ok (.iconst 1, 1) := by decide +kernel
theorem dX1_countOf_28 : decode cX1_countOf 28 = .ok (.goto 4, 3) := by decide +kernel
theorem dX1_countOf_31 : decode cX1_countOf 31 = .ok (.iconst 0, 1) := by decide +kernel
theorem dX1_countOf_32 : decode cX1_countOf 32 = .ok (.iadd, 1) := by decide +kernel
theorem dX1_countOf_33 : decode cX1_countOf 33 = .ok (.istore_n 2, 1) := by decide +kernel
theorem dX1_countOf_34 : decode cX1_countOf 34 = .ok (.iinc 3 1, 3) := by decide +kernel
theorem dX1_countOf_37 : decode cX1_countOf 37 = .ok (.goto (-33), 3) := by decide +kernel
theorem dX1_countOf_40 : decode cX1_countOf 40 = .ok (.iload_n 2, 1) := by decide +kernel
theorem dX1_countOf_41 : decode cX1_countOf 41 = .ok (.ireturn, 1) := by decide +kernel
theorem dX1_empty_0 : decode cX1_empty 0 = .ok (.aload_n 0, 1) := by decide +kernel
theorem dX1_empty_1 : decode cX1_empty 1 = .ok (.aload_n 0, 1) := by decide +kernel
theorem dX1_empty_2 : decode cX1_empty 2 = .ok (.iload_n 1, 1) := by decide +kernel
theorem dX1_empty_3 : decode cX1_empty 3 = .ok (.invokevirtual 75, 3) := by decide +kernel
theorem dX1_empty_6 : decode cX1_empty 6 = .ok (.ifCond .ne 7, 3) := by decide +kernel
theorem dX1_empty_9 : decode cX1_empty 9 = .ok (.iconst 1, 1) := by decide +kernel
theorem dX1_empty_10 : decode cX1_empty 10 = .ok (.goto 19, 3) := by decide +kernel
theorem dX1_empty_13 : decode cX1_empty 13 = .ok (.aload_n 0, 1) := by decide +kernel
theorem dX1_empty_14 : decode cX1_empty 14 = .ok (.getfield 13, 3) := by decide +kernel
theorem dX1_empty_17 : decode cX1_empty 17 = .ok (.iload_n 1, 1) := by decide +kernel
theorem dX1_empty_18 : decode cX1_empty 18 = .ok (.iaload, 1) := by decide +kernel
theorem dX1_empty_19 : decode cX1_empty 19 = .ok (.bipush 10, 2) := by decide +kernel
theorem dX1_empty_21 : decode cX1_empty 21 = .ok (.if_icmp .lt 7, 3) := by decide +kernel
theorem dX1_empty_24 : decode cX1_empty 24 = .ok (.iconst 2, 1) := by decide +kernel
theorem dX1_empty_25 : decode cX1_empty 25 = .ok (.goto 4, 3) := by decide +kernel
theorem dX1_empty_28 : decode cX1_empty 28 = .ok (.iconst 0, 1) := by decide +kernel
theorem dX1_empty_29 : decode cX1_empty 29 = .ok (.invokevirtual 65, 3) := by decide +kernel
theorem dX1_empty_32 : decode cX1_empty 32 = .ok (.ifCond .ne 5, 3) := by decide +kernel
theorem dX1_empty_35 : decode cX1_empty 35 = .ok (.iconst 0, 1) := by decide +kernel
theorem dX1_empty_36 : decode cX1_empty 36 = .ok (.ireturn, 1) := by decide +kernel
theorem dX1_empty_37 : decode cX1_empty 37 = .ok (.aload_n 0, 1) := by decide +kernel
theorem dX1_empty_38 : decode cX1_empty 38 = .ok (.iload_n 1, 1) := by decide +kernel
theorem dX1_empty_39 : decode cX1_empty 39 = .ok (.invokevirtual 113, 3) := by decide +kernel
theorem dX1_empty_42 : decode cX1_empty 42 = .ok (.istore_n 2, 1) := by decide +kernel
theorem dX1_empty_43 : decode cX1_empty 43 = .ok (.iconst 0, 1) := by decide +kernel
theorem dX1_empty_44 : decode cX1_empty 44 = .ok (.istore_n 3, 1) := by decide +kernel
theorem dX1_empty_45 : decode cX1_empty 45 = .ok (.iload_n 3, 1) := by decide +kernel
theorem dX1_empty_46 : decode cX1_empty 46 = .ok (.aload_n 0, 1) := by decide +kernel
theorem dX1_empty_47 : decode cX1_empty 47 = .ok (.getfield 41, 3) := by decide +kernel
theorem dX1_empty_50 : decode cX1_empty 50 = .ok (.if_icmp .ge 75, 3) := by decide +kernel
theorem dX1_empty_53 : decode cX1_empty 53 = .ok (.iconst 0, 1) := by decide +kernel
theorem dX1_empty_54 : decode cX1_empty 54 = .ok (.istore 4, 2) := by decide +kernel
theorem dX1_empty_56 : decode cX1_empty 56 = .ok (.iload 4, 2) := by decide +kernel
theorem dX1_empty_58 : decode cX1_empty 58 = .ok (.aload_n 0, 1) := by decide +kernel
theorem dX1_empty_59 : decode cX1_empty 59 = .ok (.getfield 41, 3) := by decide +kernel
theorem dX1_empty_62 : decode cX1_empty 62 = .ok (.if_icmp .ge 57, 3) := by decide +kernel
theorem dX1_empty_65 : decode cX1_empty 65 = .ok (.aload_n 0, 1) := by decide +kernel
theorem dX1_empty_66 : decode cX1_empty 66 = .ok (.getfield 22, 3) := by decide +kernel
theorem dX1_empty_69 : decode cX1_empty 69 = .ok (.iload_n 1, 1) := by decide +kernel
theorem dX1_empty_70 : decode cX1_empty 70 = .ok (.iload_n 3, 1) := by decide +kernel
theorem dX1_empty_71 : decode cX1_empty 71 = .ok (.iload 4, 2) := by decide +kernel
theorem dX1_empty_73 : decode cX1_empty 73 = .ok (.invokestatic 68, 3) := by decide +kernel
theorem dX1_empty_76 : decode cX1_empty 76 = .ok (.aload_n 0, 1) := by decide +kernel
theorem dX1_empty_77 : decode cX1_empty 77 = .ok (.getfield 13, 3) := by decide +kernel
theorem dX1_empty_80 : decode cX1_empty 80 = .ok (.iload_n 1, 1) := by decide +kernel
theorem dX1_empty_81 : decode cX1_empty 81 = .ok (.iaload, 1) := by decide +kernel
theorem dX1_empty_82 : decode cX1_empty 82 = .ok (.bipush 6, 2) := by decide +kernel
theorem dX1_empty_84 : decode cX1_empty 84 = .ok (.if_icmp .ne 27, 3) := by decide +kernel
theorem dX1_empty_87 : decode cX1_empty 87 = .ok (.iload_n 3, 1) := by decide +kernel
theorem dX1_empty_88 : decode cX1_empty 88 = .ok (.iload 4, 2) := by decide +kernel
theorem dX1_empty_90 : decode cX1_empty 90 = .ok (.if_icmp .ne 21, 3) := by decide +kernel
theorem dX1_empty_93 : decode cX1_empty 93 = .ok (.aload_n 0, 1) := by decide +kernel
theorem dX1_empty_94 : decode cX1_empty 94 = .ok (.getfield 22, 3) := by decide +kernel
theorem dX1_empty_97 : decode cX1_empty 97 = .ok (.iload_n 1, 1) := by decide +kernel
theorem dX1_empty_98 : decode cX1_empty 98 = .ok (.iload_n 3, 1) := by decide +kernel
theorem dX1_empty_99 : decode cX1_empty 99 = .ok (.iload_n 3, 1) := by decide +kernel
theorem dX1_empty_100 : decode cX1_empty 100 = .ok (.invokestatic 68, 3) := by decide +kernel
theorem dX1_empty_103 : decode cX1_empty 103 = .ok (.baload, 1) := by decide +kernel
theorem dX1_empty_104 : decode cX1_empty 104 = .ok (.ifCond .eq 7, 3) := by decide +kernel
theorem dX1_empty_107 : decode cX1_empty 107 = .ok (.iconst 1, 1) := by decide +kernel
theorem dX1_empty_108 : decode cX1_empty 108 = .ok (.goto 4, 3) := by decide +kernel
theorem dX1_empty_111 : decode cX1_empty 111 = .ok (.iconst 0, 1) := by decide +kernel
theorem dX1_empty_112 : decode cX1_empty 112 = .ok (.bastore, 1) := by decide +kernel
theorem dX1_empty_113 : decode cX1_empty 113 = .ok (.iinc 4 1, 3) := by decide +kernel
theorem dX1_empty_116 : decode cX1_empty 116 = .ok (.goto (-60), 3) := by decide +kernel
theorem dX1_empty_119 : decode cX1_empty 119 = .ok (.iinc 3 1, 3) := by decide +kernel
theorem dX1_empty_122 : decode cX1_empty 122 = .ok (.goto (-77), 3) := by decide +kernel
theorem dX1_empty_125 : decode cX1_empty 125 = .ok (.iload_n 2, 1) := by decide +kernel
theorem dX1_empty_126 : decode cX1_empty 126 = .ok (.aload_n 0, 1) := by decide +kernel
theorem dX1_empty_127 : decode cX1_empty 127 = .ok (.iload_n 1, 1) := by decide +kernel
theorem dX1_empty_128 : decode cX1_empty 128 = .ok (.invokevirtual 113, 3) := by decide +kernel
theorem dX1_empty_131 : decode cX1_empty 131 = .ok (.isub, 1) := by decide +kernel
theorem dX1_empty_132 : decode cX1_empty 132 = .ok (.ireturn, 1) := by decide +kernel
theorem dX1_pushed_0 : decode cX1_pushed 0 = .ok (.aload_n 0, 1) := by decide +kernel
theorem dX1_pushed_1 : decode cX1_pushed 1 = .ok (.iload_n 2, 1) := by decide +kernel
theorem dX1_pushed_2 : decode cX1_pushed 2 = .ok (.iconst 0, 1) := by decide +kernel
theorem dX1_pushed_3 : decode cX1_pushed 3 = .ok (.iconst 1, 1) := by decide +kernel
theorem dX1_pushed_4 : decode cX1_pushed 4 = .ok (.invokestatic 57, 3) := by decide +kernel
theorem dX1_pushed_7 : decode cX1_pushed 7 = .ok (.ifCond .ne 7, 3) := by decide +kernel
theorem dX1_pushed_10 : decode cX1_pushed 10 = .ok (.iconst 1, 1) := by decide +kernel
theorem dX1_pushed_11 : decode cX1_pushed 11 = .ok (.goto 22, 3) := by decide +kernel
theorem dX1_pushed_14 : decode cX1_pushed 14 = .ok (.iload_n 1, 1) := by decide +kernel
theorem dX1_pushed_15 : decode cX1_pushed 15 = .ok (.iconst 0, 1) := by decide +kernel
theorem dX1_pushed_16 : decode cX1_pushed 16 = .ok (.aload_n 0, 1) := by decide +kernel
theorem dX1_pushed_17 : decode cX1_pushed 17 = .ok (.getfield 54, 3) := by decide +kernel
theorem dX1_pushed_20 : decode cX1_pushed 20 = .ok (.iconst 1, 1) := by decide +kernel
theorem dX1_pushed_21 : decode cX1_pushed 21 = .ok (.isub, 1) := by decide +kernel
theorem dX1_pushed_22 : decode cX1_pushed 22 = .ok (.invokestatic 57, 3) := by decide +kernel
theorem dX1_pushed_25 : decode cX1_pushed 25 = .ok (.ifCond .ne 7, 3) := by decide +kernel
theorem dX1_pushed_28 : decode cX1_pushed 28 = .ok (.iconst 2, 1) := by decide +kernel
theorem dX1_pushed_29 : decode cX1_pushed 29 = .ok (.goto 4, 3) := by decide +kernel
theorem dX1_pushed_32 : decode cX1_pushed 32 = .ok (.iconst 0, 1) := by decide +kernel
theorem dX1_pushed_33 : decode cX1_pushed 33 = .ok (.invokevirtual 65, 3) := by decide +kernel
theorem dX1_pushed_36 : decode cX1_pushed 36 = .ok (.ifCond .ne 5, 3) := by decide +kernel
theorem dX1_pushed_39 : decode cX1_pushed 39 = .ok (.iconst 0, 1) := by decide +kernel
theorem dX1_pushed_40 : decode cX1_pushed 40 = .ok (.ireturn, 1) := by decide +kernel
theorem dX1_pushed_41 : decode cX1_pushed 41 = .ok (.iload_n 2, 1) := by decide +kernel
theorem dX1_pushed_42 : decode cX1_pushed 42 = .ok (.ifCond .ne 12, 3) := by decide +kernel
theorem dX1_pushed_45 : decode cX1_pushed 45 = .ok (.aload_n 0, 1) := by decide +kernel
theorem dX1_pushed_46 : decode cX1_pushed 46 = .ok (.getfield 26, 3) := by decide +kernel
theorem dX1_pushed_49 : decode cX1_pushed 49 = .ok (.iload_n 1, 1) := by decide +kernel
theorem dX1_pushed_50 : decode cX1_pushed 50 = .ok (.iaload, 1) := by decide +kernel
theorem dX1_pushed_51 : decode cX1_pushed 51 = .ok (.goto 9, 3) := by decide +kernel
theorem dX1_pushed_54 : decode cX1_pushed 54 = .ok (.aload_n 0, 1) := by decide +kernel
theorem dX1_pushed_55 : decode cX1_pushed 55 = .ok (.getfield 29, 3) := by decide +kernel
theorem dX1_pushed_58 : decode cX1_pushed 58 = .ok (.iload_n 1, 1) := by decide +kernel
theorem dX1_pushed_59 : decode cX1_pushed 59 = .ok (.iaload, 1) := by decide +kernel
theorem dX1_pushed_60 : decode cX1_pushed 60 = .ok (.ireturn, 1) := by decide +kernel
theorem dX1_has_0 : decode cX1_has 0 = .ok (.aload_n 0, 1) := by decide +kernel
theorem dX1_has_1 : decode cX1_has 1 = .ok (.aload_n 0, 1) := by decide +kernel
theorem dX1_has_2 : decode cX1_has 2 = .ok (.iload_n 1, 1) := by decide +kernel
theorem dX1_has_3 : decode cX1_has 3 = .ok (.invokevirtual 75, 3) := by decide +kernel
theorem dX1_has_6 : decode cX1_has 6 = .ok (.ifCond .eq 19, 3) := by decide +kernel
theorem dX1_has_9 : decode cX1_has 9 = .ok (.aload_n 0, 1) := by decide +kernel
theorem dX1_has_10 : decode cX1_has 10 = .ok (.iload_n 2, 1) := by decide +kernel
theorem dX1_has_11 : decode cX1_has 11 = .ok (.invokevirtual 61, 3) := by decide +kernel
theorem dX1_has_14 : decode cX1_has 14 = .ok (.ifCond .eq 11, 3) := by decide +kernel
theorem dX1_has_17 : decode cX1_has 17 = .ok (.aload_n 0, 1) := by decide +kernel
theorem dX1_has_18 : decode cX1_has 18 = .ok (.iload_n 3, 1) := by decide +kernel
theorem dX1_has_19 : decode cX1_has 19 = .ok (.invokevirtual 61, 3) := by decide +kernel
theorem dX1_has_22 : decode cX1_has 22 = .ok (.ifCond .ne 7, 3) := by decide +kernel
theorem dX1_has_25 : decode cX1_has 25 = .ok (.iconst 1, 1) := by decide +kernel
theorem dX1_has_26 : decode cX1_has 26 = .ok (.goto 4, 3) := by decide +kernel
theorem dX1_has_29 : decode cX1_has 29 = .ok (.iconst 0, 1) := by decide +kernel
theorem dX1_has_30 : decode cX1_has 30 = .ok (.invokevirtual 65, 3) := by decide +kernel
theorem dX1_has_33 : decode cX1_has 33 = .ok (.ifCond .ne 5, 3) := by decide +kernel
theorem dX1_has_36 : decode cX1_has 36 = .ok (.iconst 0, 1) := by decide +kernel
theorem dX1_has_37 : decode cX1_has 37 = .ok (.ireturn, 1) := by decide +kernel
theorem dX1_has_38 : decode cX1_has 38 = .ok (.aload_n 0, 1) := by decide +kernel
theorem dX1_has_39 : decode cX1_has 39 = .ok (.iload_n 1, 1) := by decide +kernel
theorem dX1_has_40 : decode cX1_has 40 = .ok (.invokevirtual 117, 3) := by decide +kernel
theorem dX1_has_43 : decode cX1_has 43 = .ok (.aload_n 0, 1) := by decide +kernel
theorem dX1_has_44 : decode cX1_has 44 = .ok (.getfield 22, 3) := by decide +kernel
theorem dX1_has_47 : decode cX1_has 47 = .ok (.iload_n 1, 1) := by decide +kernel
theorem dX1_has_48 : decode cX1_has 48 = .ok (.iload_n 2, 1) := by decide +kernel
theorem dX1_has_49 : decode cX1_has 49 = .ok (.iload_n 3, 1) := by decide +kernel
theorem dX1_has_50 : decode cX1_has 50 = .ok (.invokestatic 68, 3) := by decide +kernel
theorem dX1_has_53 : decode cX1_has 53 = .ok (.baload, 1) := by decide +kernel
theorem dX1_has_54 : decode cX1_has 54 = .ok (.ireturn, 1) := by decide +kernel
theorem dX1_beside_0 : decode cX1_beside 0 = .ok (.aload_n 0, 1) := by decide +kernel
theorem dX1_beside_1 : decode cX1_beside 1 = .ok (.iload_n 1, 1) := by decide +kernel
theorem dX1_beside_2 : decode cX1_beside 2 = .ok (.invokevirtual 117, 3) := by decide +kernel
theorem dX1_beside_5 : decode cX1_beside 5 = .ok (.iconst 0, 1) := by decide +kernel
theorem dX1_beside_6 : decode cX1_beside 6 = .ok (.istore 5, 2) := by decide +kernel
theorem dX1_beside_8 : decode cX1_beside 8 = .ok (.iconst 0, 1) := by decide +kernel
theorem dX1_beside_9 : decode cX1_beside 9 = .ok (.istore 6, 2) := by decide +kernel
theorem dX1_beside_11 : decode cX1_beside 11 = .ok (.iload 6, 2) := by decide +kernel
theorem dX1_beside_13 : decode cX1_beside 13 = .ok (.aload_n 0, 1) := by decide +kernel
theorem dX1_beside_14 : decode cX1_beside 14 = .ok (.getfield 41, 3) := by decide +kernel
theorem dX1_beside_17 : decode cX1_beside 17 = .ok (.if_icmp .ge 51, 3) := by decide +kernel
theorem dX1_beside_20 : decode cX1_beside 20 = .ok (.aload_n 0, 1) := by decide +kernel
theorem dX1_beside_21 : decode cX1_beside 21 = .ok (.getfield 22, 3) := by decide +kernel
theorem dX1_beside_24 : decode cX1_beside 24 = .ok (.iload 4, 2) := by decide +kernel
theorem dX1_beside_26 : decode cX1_beside 26 = .ok (.ifCond .eq 13, 3) := by decide +kernel
theorem dX1_beside_29 : decode cX1_beside 29 = .ok (.iload_n 1, 1) := by decide +kernel
theorem dX1_beside_30 : decode cX1_beside 30 = .ok (.iload_n 2, 1) := by decide +kernel
theorem dX1_beside_31 : decode cX1_beside 31 = .ok (.iload 6, 2) := by decide +kernel
theorem dX1_beside_33 : decode cX1_beside 33 = .ok (.invokestatic 68, 3) := by decide +kernel
theorem dX1_beside_36 : decode cX1_beside 36 = .ok (.goto 10, 3) := by decide +kernel
theorem dX1_beside_39 : decode cX1_beside 39 = .ok (.iload_n 1, 1) := by decide +kernel
theorem dX1_beside_40 : decode cX1_beside 40 = .ok (.iload 6, 2) := by decide +kernel
theorem dX1_beside_42 : decode cX1_beside 42 = .ok (.iload_n 2, 1) := by decide +kernel
theorem dX1_beside_43 : decode cX1_beside 43 = .ok (.invokestatic 68, 3) := by decide +kernel
theorem dX1_beside_46 : decode cX1_beside 46 = .ok (.baload, 1) := by decide +kernel
theorem dX1_beside_47 : decode cX1_beside 47 = .ok (.ifCond .eq 15, 3) := by decide +kernel
theorem dX1_beside_50 : decode cX1_beside 50 = .ok (.iload 5, 2) := by decide +kernel
theorem dX1_beside_52 : decode cX1_beside 52 = .ok (.iload_n 3, 1) := by decide +kernel
theorem dX1_beside_53 : decode cX1_beside 53 = .ok (.if_icmp .ne 6, 3) := by decide +kernel
theorem dX1_beside_56 : decode cX1_beside 56 = .ok (.iload 6, 2) := by decide +kernel
theorem dX1_beside_58 : decode cX1_beside 58 = .ok (.ireturn, 1) := by decide +kernel
theorem dX1_beside_59 : decode cX1_beside 59 = .ok (.iinc 5 1, 3) := by decide +kernel
theorem dX1_beside_62 : decode cX1_beside 62 = .ok (.iinc 6 1, 3) := by decide +kernel
theorem dX1_beside_65 : decode cX1_beside 65 = .ok (.goto (-54), 3) := by decide +kernel
theorem dX1_beside_68 : decode cX1_beside 68 = .ok (.iconst (-1), 1) := by decide +kernel
theorem dX1_beside_69 : decode cX1_beside 69 = .ok (.ireturn, 1) := by decide +kernel
theorem dX1_besideOr_0 : decode cX1_besideOr 0 = .ok (.aload_n 0, 1) := by decide +kernel
theorem dX1_besideOr_1 : decode cX1_besideOr 1 = .ok (.aload_n 0, 1) := by decide +kernel
theorem dX1_besideOr_2 : decode cX1_besideOr 2 = .ok (.iload_n 1, 1) := by decide +kernel
theorem dX1_besideOr_3 : decode cX1_besideOr 3 = .ok (.invokevirtual 75, 3) := by decide +kernel
theorem dX1_besideOr_6 : decode cX1_besideOr 6 = .ok (.ifCond .eq 11, 3) := by decide +kernel
theorem dX1_besideOr_9 : decode cX1_besideOr 9 = .ok (.aload_n 0, 1) := by decide +kernel
theorem dX1_besideOr_10 : decode cX1_besideOr 10 = .ok (.iload_n 2, 1) := by decide +kernel
theorem dX1_besideOr_11 : decode cX1_besideOr 11 = .ok (.invokevirtual 61, 3) := by decide +kernel
theorem dX1_besideOr_14 : decode cX1_besideOr 14 = .ok (.ifCond .ne 7, 3) := by decide +kernel
theorem dX1_besideOr_17 : decode cX1_besideOr 17 = .ok (.iconst 1, 1) := by decide +kernel
theorem dX1_besideOr_18 : decode cX1_besideOr 18 = .ok (.goto 4, 3) := by decide +kernel
theorem dX1_besideOr_21 : decode cX1_besideOr 21 = .ok (.iconst 0, 1) := by decide +kernel
theorem dX1_besideOr_22 : decode cX1_besideOr 22 = .ok (.invokevirtual 65, 3) := by decide +kernel
theorem dX1_besideOr_25 : decode cX1_besideOr 25 = .ok (.ifCond .ne 5, 3) := by decide +kernel
theorem dX1_besideOr_28 : decode cX1_besideOr 28 = .ok (.iconst 0, 1) := by decide +kernel
theorem dX1_besideOr_29 : decode cX1_besideOr 29 = .ok (.ireturn, 1) := by decide +kernel
theorem dX1_besideOr_30 : decode cX1_besideOr 30 = .ok (.aload_n 0, 1) := by decide +kernel
theorem dX1_besideOr_31 : decode cX1_besideOr 31 = .ok (.iload_n 1, 1) := by decide +kernel
theorem dX1_besideOr_32 : decode cX1_besideOr 32 = .ok (.iload_n 2, 1) := by decide +kernel
theorem dX1_besideOr_33 : decode cX1_besideOr 33 = .ok (.iload_n 3, 1) := by decide +kernel
theorem dX1_besideOr_34 : decode cX1_besideOr 34 = .ok (.iload 4, 2) := by decide +kernel
theorem dX1_besideOr_36 : decode cX1_besideOr 36 = .ok (.invokevirtual 120, 3) := by decide +kernel
theorem dX1_besideOr_39 : decode cX1_besideOr 39 = .ok (.istore 5, 2) := by decide +kernel
theorem dX1_besideOr_41 : decode cX1_besideOr 41 = .ok (.aload_n 0, 1) := by decide +kernel
theorem dX1_besideOr_42 : decode cX1_besideOr 42 = .ok (.iload 5, 2) := by decide +kernel
theorem dX1_besideOr_44 : decode cX1_besideOr 44 = .ok (.iconst (-1), 1) := by decide +kernel
theorem dX1_besideOr_45 : decode cX1_besideOr 45 = .ok (.if_icmp .ne 7, 3) := by decide +kernel
theorem dX1_besideOr_48 : decode cX1_besideOr 48 = .ok (.iconst 2, 1) := by decide +kernel
theorem dX1_besideOr_49 : decode cX1_besideOr 49 = .ok (.goto 4, 3) := by decide +kernel
theorem dX1_besideOr_52 : decode cX1_besideOr 52 = .ok (.iconst 0, 1) := by decide +kernel
theorem dX1_besideOr_53 : decode cX1_besideOr 53 = .ok (.invokevirtual 65, 3) := by decide +kernel
theorem dX1_besideOr_56 : decode cX1_besideOr 56 = .ok (.ifCond .eq 8, 3) := by decide +kernel
theorem dX1_besideOr_59 : decode cX1_besideOr 59 = .ok (.iload 5, 2) := by decide +kernel
theorem dX1_besideOr_61 : decode cX1_besideOr 61 = .ok (.goto 4, 3) := by decide +kernel
theorem dX1_besideOr_64 : decode cX1_besideOr 64 = .ok (.iconst 0, 1) := by decide +kernel
theorem dX1_besideOr_65 : decode cX1_besideOr 65 = .ok (.ireturn, 1) := by decide +kernel
theorem dX1_next_0 : decode cX1_next 0 = .ok (.aload_n 0, 1) := by decide +kernel
theorem dX1_next_1 : decode cX1_next 1 = .ok (.iload_n 1, 1) := by decide +kernel
theorem dX1_next_2 : decode cX1_next 2 = .ok (.iload_n 2, 1) := by decide +kernel
theorem dX1_next_3 : decode cX1_next 3 = .ok (.iload_n 3, 1) := by decide +kernel
theorem dX1_next_4 : decode cX1_next 4 = .ok (.iconst 1, 1) := by decide +kernel
theorem dX1_next_5 : decode cX1_next 5 = .ok (.invokevirtual 124, 3) := by decide +kernel
theorem dX1_next_8 : decode cX1_next 8 = .ok (.ireturn, 1) := by decide +kernel
theorem dX1_back_0 : decode cX1_back 0 = .ok (.aload_n 0, 1) := by decide +kernel
theorem dX1_back_1 : decode cX1_back 1 = .ok (.iload_n 1, 1) := by decide +kernel
theorem dX1_back_2 : decode cX1_back 2 = .ok (.iload_n 2, 1) := by decide +kernel
theorem dX1_back_3 : decode cX1_back 3 = .ok (.iload_n 3, 1) := by decide +kernel
theorem dX1_back_4 : decode cX1_back 4 = .ok (.iconst 0, 1) := by decide +kernel
theorem dX1_back_5 : decode cX1_back 5 = .ok (.invokevirtual 124, 3) := by decide +kernel
theorem dX1_back_8 : decode cX1_back 8 = .ok (.ireturn, 1) := by decide +kernel
theorem dX1_count_0 : decode cX1_count 0 = .ok (.aload_n 0, 1) := by decide +kernel
theorem dX1_count_1 : decode cX1_count 1 = .ok (.aload_n 0, 1) := by decide +kernel
theorem dX1_count_2 : decode cX1_count 2 = .ok (.iload_n 1, 1) := by decide +kernel
theorem dX1_count_3 : decode cX1_count 3 = .ok (.invokevirtual 75, 3) := by decide +kernel
theorem dX1_count_6 : decode cX1_count 6 = .ok (.ifCond .eq 7, 3) := by decide +kernel
theorem dX1_count_9 : decode cX1_count 9 = .ok (.iconst 0, 1) := by decide +kernel
theorem dX1_count_10 : decode cX1_count 10 = .ok (.goto 4, 3) := by decide +kernel
theorem dX1_count_13 : decode cX1_count 13 = .ok (.iconst 1, 1) := by decide +kernel
theorem dX1_count_14 : decode cX1_count 14 = .ok (.invokevirtual 65, 3) := by decide +kernel
theorem dX1_count_17 : decode cX1_count 17 = .ok (.ifCond .ne 5, 3) := by decide +kernel
theorem dX1_count_20 : decode cX1_count 20 = .ok (.iconst 0, 1) := by decide +kernel
theorem dX1_count_21 : decode cX1_count 21 = .ok (.ireturn, 1) := by decide +kernel
theorem dX1_count_22 : decode cX1_count 22 = .ok (.aload_n 0, 1) := by decide +kernel
theorem dX1_count_23 : decode cX1_count 23 = .ok (.iload_n 1, 1) := by decide +kernel
theorem dX1_count_24 : decode cX1_count 24 = .ok (.invokevirtual 117, 3) := by decide +kernel
theorem dX1_count_27 : decode cX1_count 27 = .ok (.aload_n 0, 1) := by decide +kernel
theorem dX1_count_28 : decode cX1_count 28 = .ok (.iload_n 1, 1) := by decide +kernel
theorem dX1_count_29 : decode cX1_count 29 = .ok (.invokevirtual 113, 3) := by decide +kernel
theorem dX1_count_32 : decode cX1_count 32 = .ok (.ireturn, 1) := by decide +kernel
theorem dX1_measure_0 : decode cX1_measure 0 = .ok (.aload_n 0, 1) := by decide +kernel
theorem dX1_measure_1 : decode cX1_measure 1 = .ok (.iload_n 1, 1) := by decide +kernel
theorem dX1_measure_2 : decode cX1_measure 2 = .ok (.invokevirtual 117, 3) := by decide +kernel
theorem dX1_measure_5 : decode cX1_measure 5 = .ok (.iconst 0, 1) := by decide +kernel
theorem dX1_measure_6 : decode cX1_measure 6 = .ok (.istore_n 3, 1) := by decide +kernel
theorem dX1_measure_7 : decode cX1_measure 7 = .ok (.iload_n 3, 1) := by decide +kernel
theorem dX1_measure_8 : decode cX1_measure 8 = .ok (.aload_n 0, 1) := by decide +kernel
theorem dX1_measure_9 : decode cX1_measure 9 = .ok (.getfield 41, 3) := by decide +kernel
theorem dX1_measure_12 : decode cX1_measure 12 = .ok (.if_icmp .ge 25, 3) := by decide +kernel
theorem dX1_measure_15 : decode cX1_measure 15 = .ok (.aload_n 0, 1) := by decide +kernel
theorem dX1_measure_16 : decode cX1_measure 16 = .ok (.getfield 38, 3) := by decide +kernel
theorem dX1_measure_19 : decode cX1_measure 19 = .ok (.iload_n 3, 1) := by decide +kernel
theorem dX1_measure_20 : decode cX1_measure 20 = .ok (.iload_n 3, 1) := by decide +kernel
theorem dX1_measure_21 : decode cX1_measure 21 = .ok (.iload_n 2, 1) := by decide +kernel
theorem dX1_measure_22 : decode cX1_measure 22 = .ok (.if_icmp .ne 7, 3) := by decide +kernel
theorem dX1_measure_25 : decode cX1_measure 25 = .ok (.iconst 0, 1) := by decide +kernel
theorem dX1_measure_26 : decode cX1_measure 26 = .ok (.goto 4, 3) := by decide +kernel
theorem dX1_measure_29 : decode cX1_measure 29 = .ok (.iconst (-1), 1) := by decide +kernel
theorem dX1_measure_30 : decode cX1_measure 30 = .ok (.iastore, 1) := by decide +kernel
theorem dX1_measure_31 : decode cX1_measure 31 = .ok (.iinc 3 1, 3) := by decide +kernel
theorem dX1_measure_34 : decode cX1_measure 34 = .ok (.goto (-27), 3) := by decide +kernel
theorem dX1_measure_37 : decode cX1_measure 37 = .ok (.iconst 1, 1) := by decide +kernel
theorem dX1_measure_38 : decode cX1_measure 38 = .ok (.istore_n 3, 1) := by decide +kernel
theorem dX1_measure_39 : decode cX1_measure 39 = .ok (.iload_n 3, 1) := by decide +kernel
theorem dX1_measure_40 : decode cX1_measure 40 = .ok (.aload_n 0, 1) := by decide +kernel
theorem dX1_measure_41 : decode cX1_measure 41 = .ok (.getfield 41, 3) := by decide +kernel
theorem dX1_measure_44 : decode cX1_measure 44 = .ok (.if_icmp .ge 93, 3) := by decide +kernel
theorem dX1_measure_47 : decode cX1_measure 47 = .ok (.iconst 0, 1) := by decide +kernel
theorem dX1_measure_48 : decode cX1_measure 48 = .ok (.istore 4, 2) := by decide +kernel
theorem dX1_measure_50 : decode cX1_measure 50 = .ok (.iload 4, 2) := by decide +kernel
theorem dX1_measure_52 : decode cX1_measure 52 = .ok (.aload_n 0, 1) := by decide +kernel
theorem dX1_measure_53 : decode cX1_measure 53 = .ok (.getfield 41, 3) := by decide +kernel
theorem dX1_measure_56 : decode cX1_measure 56 = .ok (.if_icmp .ge 75, 3) := by decide +kernel
theorem dX1_measure_59 : decode cX1_measure 59 = .ok (.iconst 0, 1) := by decide +kernel
theorem dX1_measure_60 : decode cX1_measure 60 = .ok (.istore 5, 2) := by decide +kernel
theorem dX1_measure_62 : decode cX1_measure 62 = .ok (.iload 5, 2) := by decide +kernel
theorem dX1_measure_64 : decode cX1_measure 64 = .ok (.aload_n 0, 1) := by decide +kernel
theorem dX1_measure_65 : decode cX1_measure 65 = .ok (.getfield 41, 3) := by decide +kernel
theorem dX1_measure_68 : decode cX1_measure 68 = .ok (.if_icmp .ge 57, 3) := by decide +kernel
theorem dX1_measure_71 : decode cX1_measure 71 = .ok (.aload_n 0, 1) := by decide +kernel
theorem dX1_measure_72 : decode cX1_measure 72 = .ok (.getfield 38, 3) := by decide +kernel
theorem dX1_measure_75 : decode cX1_measure 75 = .ok (.iload 4, 2) := by decide +kernel
theorem dX1_measure_77 : decode cX1_measure 77 = .ok (.iaload, 1) := by decide +kernel
theorem dX1_measure_78 : decode cX1_measure 78 = .ok (.iconst (-1), 1) := by decide +kernel
theorem dX1_measure_79 : decode cX1_measure 79 = .ok (.if_icmp .ne 46, 3) := by decide +kernel
theorem dX1_measure_82 : decode cX1_measure 82 = .ok (.aload_n 0, 1) := by decide +kernel
theorem dX1_measure_83 : decode cX1_measure 83 = .ok (.getfield 22, 3) := by decide +kernel
theorem dX1_measure_86 : decode cX1_measure 86 = .ok (.iload_n 1, 1) := by decide +kernel
theorem dX1_measure_87 : decode cX1_measure 87 = .ok (.iload 4, 2) := by decide +kernel
theorem dX1_measure_89 : decode cX1_measure 89 = .ok (.iload 5, 2) := by decide +kernel
theorem dX1_measure_91 : decode cX1_measure 91 = .ok (.invokestatic 68, 3) := by decide +kernel
theorem dX1_measure_94 : decode cX1_measure 94 = .ok (.baload, 1) := by decide +kernel
theorem dX1_measure_95 : decode cX1_measure 95 = .ok (.ifCond .eq 24, 3) := by decide +kernel
theorem dX1_measure_98 : decode cX1_measure 98 = .ok (.aload_n 0, 1) := by decide +kernel
theorem dX1_measure_99 : decode cX1_measure 99 = .ok (.getfield 38, 3) := by decide +kernel
theorem dX1_measure_102 : decode cX1_measure 102 = .ok (.iload 5, 2) := by decide +kernel
theorem dX1_measure_104 : decode cX1_measure 104 = .ok (.iaload, 1) := by decide +kernel
theorem dX1_measure_105 : decode cX1_measure 105 = .ok (.iload_n 3, 1) := by decide +kernel
theorem dX1_measure_106 : decode cX1_measure 106 = .ok (.iconst 1, 1) := by decide +kernel
theorem dX1_measure_107 : decode cX1_measure 107 = .ok (.isub, 1) := by decide +kernel
theorem dX1_measure_108 : decode cX1_measure 108 = .ok (.if_icmp .ne 11, 3) := by decide +kernel
theorem dX1_measure_111 : decode cX1_measure 111 = .ok (.aload_n 0, 1) := by decide +kernel
theorem dX1_measure_112 : decode cX1_measure 112 = .ok (.getfield 38, 3) := by decide +kernel
theorem dX1_measure_115 : decode cX1_measure 115 = .ok (.iload 4, 2) := by decide +kernel
theorem dX1_measure_117 : decode cX1_measure 117 = .ok (.iload_n 3, 1) := by decide +kernel
theorem dX1_measure_118 : decode cX1_measure 118 = .ok (.iastore, 1) := by decide +kernel
theorem dX1_measure_119 : decode cX1_measure 119 = .ok (.iinc 5 1, 3) := by decide +kernel
theorem dX1_measure_122 : decode cX1_measure 122 = .ok (.goto (-60), 3) := by decide +kernel
theorem dX1_measure_125 : decode cX1_measure 125 = .ok (.iinc 4 1, 3) := by decide +kernel
theorem dX1_measure_128 : decode cX1_measure 128 = .ok (.goto (-78), 3) := by decide +kernel
theorem dX1_measure_131 : decode cX1_measure 131 = .ok (.iinc 3 1, 3) := by decide +kernel
theorem dX1_measure_134 : decode cX1_measure 134 = .ok (.goto (-95), 3) := by decide +kernel
theorem dX1_measure_137 : decode cX1_measure 137 = .ok (.return_, 1) := by decide +kernel
theorem dX1_length_0 : decode cX1_length 0 = .ok (.aload_n 0, 1) := by decide +kernel
theorem dX1_length_1 : decode cX1_length 1 = .ok (.aload_n 0, 1) := by decide +kernel
theorem dX1_length_2 : decode cX1_length 2 = .ok (.iload_n 1, 1) := by decide +kernel
theorem dX1_length_3 : decode cX1_length 3 = .ok (.invokevirtual 75, 3) := by decide +kernel
theorem dX1_length_6 : decode cX1_length 6 = .ok (.ifCond .eq 19, 3) := by decide +kernel
theorem dX1_length_9 : decode cX1_length 9 = .ok (.aload_n 0, 1) := by decide +kernel
theorem dX1_length_10 : decode cX1_length 10 = .ok (.iload_n 2, 1) := by decide +kernel
theorem dX1_length_11 : decode cX1_length 11 = .ok (.invokevirtual 61, 3) := by decide +kernel
theorem dX1_length_14 : decode cX1_length 14 = .ok (.ifCond .eq 11, 3) := by decide +kernel
theorem dX1_length_17 : decode cX1_length 17 = .ok (.aload_n 0, 1) := by decide +kernel
theorem dX1_length_18 : decode cX1_length 18 = .ok (.iload_n 3, 1) := by decide +kernel
theorem dX1_length_19 : decode cX1_length 19 = .ok (.invokevirtual 61, 3) := by decide +kernel
theorem dX1_length_22 : decode cX1_length 22 = .ok (.ifCond .ne 7, 3) := by decide +kernel
theorem dX1_length_25 : decode cX1_length 25 = .ok (.iconst 1, 1) := by decide +kernel
theorem dX1_length_26 : decode cX1_length 26 = .ok (.goto 4, 3) := by decide +kernel
theorem dX1_length_29 : decode cX1_length 29 = .ok (.iconst 0, 1) := by decide +kernel
theorem dX1_length_30 : decode cX1_length 30 = .ok (.invokevirtual 65, 3) := by decide +kernel
theorem dX1_length_33 : decode cX1_length 33 = .ok (.ifCond .ne 5, 3) := by decide +kernel
theorem dX1_length_36 : decode cX1_length 36 = .ok (.iconst 0, 1) := by decide +kernel
theorem dX1_length_37 : decode cX1_length 37 = .ok (.ireturn, 1) := by decide +kernel
theorem dX1_length_38 : decode cX1_length 38 = .ok (.aload_n 0, 1) := by decide +kernel
theorem dX1_length_39 : decode cX1_length 39 = .ok (.iload_n 1, 1) := by decide +kernel
theorem dX1_length_40 : decode cX1_length 40 = .ok (.iload_n 3, 1) := by decide +kernel
theorem dX1_length_41 : decode cX1_length 41 = .ok (.invokevirtual 127, 3) := by decide +kernel
theorem dX1_length_44 : decode cX1_length 44 = .ok (.aload_n 0, 1) := by decide +kernel
theorem dX1_length_45 : decode cX1_length 45 = .ok (.getfield 38, 3) := by decide +kernel
theorem dX1_length_48 : decode cX1_length 48 = .ok (.iload_n 2, 1) := by decide +kernel
theorem dX1_length_49 : decode cX1_length 49 = .ok (.iaload, 1) := by decide +kernel
theorem dX1_length_50 : decode cX1_length 50 = .ok (.ireturn, 1) := by decide +kernel
theorem dX1_route_0 : decode cX1_route 0 = .ok (.aload_n 0, 1) := by decide +kernel
theorem dX1_route_1 : decode cX1_route 1 = .ok (.aload_n 0, 1) := by decide +kernel
theorem dX1_route_2 : decode cX1_route 2 = .ok (.iload_n 1, 1) := by decide +kernel
theorem dX1_route_3 : decode cX1_route 3 = .ok (.invokevirtual 75, 3) := by decide +kernel
theorem dX1_route_6 : decode cX1_route 6 = .ok (.ifCond .eq 19, 3) := by decide +kernel
theorem dX1_route_9 : decode cX1_route 9 = .ok (.aload_n 0, 1) := by decide +kernel
theorem dX1_route_10 : decode cX1_route 10 = .ok (.iload_n 2, 1) := by decide +kernel
theorem dX1_route_11 : decode cX1_route 11 = .ok (.invokevirtual 61, 3) := by decide +kernel
theorem dX1_route_14 : decode cX1_route 14 = .ok (.ifCond .eq 11, 3) := by decide +kernel
theorem dX1_route_17 : decode cX1_route 17 = .ok (.aload_n 0, 1) := by decide +kernel
theorem dX1_route_18 : decode cX1_route 18 = .ok (.iload_n 3, 1) := by decide +kernel
theorem dX1_route_19 : decode cX1_route 19 = .ok (.invokevirtual 61, 3) := by decide +kernel
theorem dX1_route_22 : decode cX1_route 22 = .ok (.ifCond .ne 7, 3) := by decide +kernel
theorem dX1_route_25 : decode cX1_route 25 = .ok (.iconst 1, 1) := by decide +kernel
theorem dX1_route_26 : decode cX1_route 26 = .ok (.goto 4, 3) := by decide +kernel
theorem dX1_route_29 : decode cX1_route 29 = .ok (.iconst 0, 1) := by decide +kernel
theorem dX1_route_30 : decode cX1_route 30 = .ok (.invokevirtual 65, 3) := by decide +kernel
theorem dX1_route_33 : decode cX1_route 33 = .ok (.ifCond .ne 5, 3) := by decide +kernel
theorem dX1_route_36 : decode cX1_route 36 = .ok (.iconst 0, 1) := by decide +kernel
theorem dX1_route_37 : decode cX1_route 37 = .ok (.ireturn, 1) := by decide +kernel
theorem dX1_route_38 : decode cX1_route 38 = .ok (.aload_n 0, 1) := by decide +kernel
theorem dX1_route_39 : decode cX1_route 39 = .ok (.iload_n 1, 1) := by decide +kernel
theorem dX1_route_40 : decode cX1_route 40 = .ok (.iload_n 3, 1) := by decide +kernel
theorem dX1_route_41 : decode cX1_route 41 = .ok (.invokevirtual 127, 3) := by decide +kernel
theorem dX1_route_44 : decode cX1_route 44 = .ok (.aload_n 0, 1) := by decide +kernel
theorem dX1_route_45 : decode cX1_route 45 = .ok (.iload 4, 2) := by decide +kernel
theorem dX1_route_47 : decode cX1_route 47 = .ok (.iconst 0, 1) := by decide +kernel
theorem dX1_route_48 : decode cX1_route 48 = .ok (.aload_n 0, 1) := by decide +kernel
theorem dX1_route_49 : decode cX1_route 49 = .ok (.getfield 38, 3) := by decide +kernel
theorem dX1_route_52 : decode cX1_route 52 = .ok (.iload_n 2, 1) := by decide +kernel
theorem dX1_route_53 : decode cX1_route 53 = .ok (.iaload, 1) := by decide +kernel
theorem dX1_route_54 : decode cX1_route 54 = .ok (.invokestatic 57, 3) := by decide +kernel
theorem dX1_route_57 : decode cX1_route 57 = .ok (.ifCond .ne 7, 3) := by decide +kernel
theorem dX1_route_60 : decode cX1_route 60 = .ok (.iconst 2, 1) := by decide +kernel
theorem dX1_route_61 : decode cX1_route 61 = .ok (.goto 4, 3) := by decide +kernel
theorem dX1_route_64 : decode cX1_route 64 = .ok (.iconst 0, 1) := by decide +kernel
theorem dX1_route_65 : decode cX1_route 65 = .ok (.invokevirtual 65, 3) := by decide +kernel
theorem dX1_route_68 : decode cX1_route 68 = .ok (.ifCond .ne 5, 3) := by decide +kernel
theorem dX1_route_71 : decode cX1_route 71 = .ok (.iconst 0, 1) := by decide +kernel
theorem dX1_route_72 : decode cX1_route 72 = .ok (.ireturn, 1) := by decide +kernel
theorem dX1_route_73 : decode cX1_route 73 = .ok (.iload_n 2, 1) := by decide +kernel
theorem dX1_route_74 : decode cX1_route 74 = .ok (.istore 5, 2) := by decide +kernel
theorem dX1_route_76 : decode cX1_route 76 = .ok (.iconst 0, 1) := by decide +kernel
theorem dX1_route_77 : decode cX1_route 77 = .ok (.istore 6, 2) := by decide +kernel
theorem dX1_route_79 : decode cX1_route 79 = .ok (.iload 6, 2) := by decide +kernel
theorem dX1_route_81 : decode cX1_route 81 = .ok (.iload 4, 2) := by decide +kernel
theorem dX1_route_83 : decode cX1_route 83 = .ok (.if_icmp .ge 57, 3) := by decide +kernel
theorem dX1_route_86 : decode cX1_route 86 = .ok (.iconst 0, 1) := by decide +kernel
theorem dX1_route_87 : decode cX1_route 87 = .ok (.istore 7, 2) := by decide +kernel
theorem dX1_route_89 : decode cX1_route 89 = .ok (.aload_n 0, 1) := by decide +kernel
theorem dX1_route_90 : decode cX1_route 90 = .ok (.getfield 22, 3) := by decide +kernel
theorem dX1_route_93 : decode cX1_route 93 = .ok (.iload_n 1, 1) := by decide +kernel
theorem dX1_route_94 : decode cX1_route 94 = .ok (.iload 5, 2) := by decide +kernel
theorem dX1_route_96 : decode cX1_route 96 = .ok (.iload 7, 2) := by decide +kernel
theorem dX1_route_98 : decode cX1_route 98 = .ok (.invokestatic 68, 3) := by decide +kernel
theorem dX1_route_101 : decode cX1_route 101 = .ok (.baload, 1) := by decide +kernel
theorem dX1_route_102 : decode cX1_route 102 = .ok (.ifCond .eq 22, 3) := by decide +kernel
theorem dX1_route_105 : decode cX1_route 105 = .ok (.aload_n 0, 1) := by decide +kernel
theorem dX1_route_106 : decode cX1_route 106 = .ok (.getfield 38, 3) := by decide +kernel
theorem dX1_route_109 : decode cX1_route 109 = .ok (.iload 7, 2) := by decide +kernel
theorem dX1_route_111 : decode cX1_route 111 = .ok (.iaload, 1) := by decide +kernel
theorem dX1_route_112 : decode cX1_route 112 = .ok (.aload_n 0, 1) := by decide +kernel
theorem dX1_route_113 : decode cX1_route 113 = .ok (.getfield 38, 3) := by decide +kernel
theorem dX1_route_116 : decode cX1_route 116 = .ok (.iload 5, 2) := by decide +kernel
theorem dX1_route_118 : decode cX1_route 118 = .ok (.iaload, 1) := by decide +kernel
theorem dX1_route_119 : decode cX1_route 119 = .ok (.iconst 1, 1) := by decide +kernel
theorem dX1_route_120 : decode cX1_route 120 = .ok (.isub, 1) := by decide +kernel
theorem dX1_route_121 : decode cX1_route 121 = .ok (.if_icmp .eq 9, 3) := by decide +kernel
theorem dX1_route_124 : decode cX1_route 124 = .ok (.iinc 7 1, 3) := by decide +kernel
theorem dX1_route_127 : decode cX1_route 127 = .ok (.goto (-38), 3) := by decide +kernel
theorem dX1_route_130 : decode cX1_route 130 = .ok (.iload 7, 2) := by decide +kernel
theorem dX1_route_132 : decode cX1_route 132 = .ok (.istore 5, 2) := by decide +kernel
theorem dX1_route_134 : decode cX1_route 134 = .ok (.iinc 6 1, 3) := by decide +kernel
theorem dX1_route_137 : decode cX1_route 137 = .ok (.goto (-58), 3) := by decide +kernel
theorem dX1_route_140 : decode cX1_route 140 = .ok (.iload 5, 2) := by decide +kernel
theorem dX1_route_142 : decode cX1_route 142 = .ok (.ireturn, 1) := by decide +kernel
theorem dX1_leader_0 : decode cX1_leader 0 = .ok (.aload_n 0, 1) := by decide +kernel
theorem dX1_leader_1 : decode cX1_leader 1 = .ok (.iload_n 1, 1) := by decide +kernel
theorem dX1_leader_2 : decode cX1_leader 2 = .ok (.invokevirtual 75, 3) := by decide +kernel
theorem dX1_leader_5 : decode cX1_leader 5 = .ok (.ifCond .eq 11, 3) := by decide +kernel
theorem dX1_leader_8 : decode cX1_leader 8 = .ok (.aload_n 0, 1) := by decide +kernel
theorem dX1_leader_9 : decode cX1_leader 9 = .ok (.iload_n 2, 1) := by decide +kernel
theorem dX1_leader_10 : decode cX1_leader 10 = .ok (.invokevirtual 61, 3) := by decide +kernel
theorem dX1_leader_13 : decode cX1_leader 13 = .ok (.ifCond .ne 7, 3) := by decide +kernel
theorem dX1_leader_16 : decode cX1_leader 16 = .ok (.iconst 1, 1) := by decide +kernel
theorem dX1_leader_17 : decode cX1_leader 17 = .ok (.goto 19, 3) := by decide +kernel
theorem dX1_leader_20 : decode cX1_leader 20 = .ok (.aload_n 0, 1) := by decide +kernel
theorem dX1_leader_21 : decode cX1_leader 21 = .ok (.getfield 13, 3) := by decide +kernel
theorem dX1_leader_24 : decode cX1_leader 24 = .ok (.iload_n 1, 1) := by decide +kernel
theorem dX1_leader_25 : decode cX1_leader 25 = .ok (.iaload, 1) := by decide +kernel
theorem dX1_leader_26 : decode cX1_leader 26 = .ok (.bipush 6, 2) := by decide +kernel
theorem dX1_leader_28 : decode cX1_leader 28 = .ok (.if_icmp .eq 7, 3) := by decide +kernel
theorem dX1_leader_31 : decode cX1_leader 31 = .ok (.iconst 2, 1) := by decide +kernel
theorem dX1_leader_32 : decode cX1_leader 32 = .ok (.goto 4, 3) := by decide +kernel
theorem dX1_leader_35 : decode cX1_leader 35 = .ok (.iconst 0, 1) := by decide +kernel
theorem dX1_leader_36 : decode cX1_leader 36 = .ok (.istore_n 3, 1) := by decide +kernel
theorem dX1_leader_37 : decode cX1_leader 37 = .ok (.iload_n 3, 1) := by decide +kernel
theorem dX1_leader_38 : decode cX1_leader 38 = .ok (.ifCond .ne 23, 3) := by decide +kernel
theorem dX1_leader_41 : decode cX1_leader 41 = .ok (.aload_n 0, 1) := by decide +kernel
theorem dX1_leader_42 : decode cX1_leader 42 = .ok (.getfield 7, 3) := by decide +kernel
theorem dX1_leader_45 : decode cX1_leader 45 = .ok (.iload_n 2, 1) := by decide +kernel
theorem dX1_leader_46 : decode cX1_leader 46 = .ok (.iaload, 1) := by decide +kernel
theorem dX1_leader_47 : decode cX1_leader 47 = .ok (.aload_n 0, 1) := by decide +kernel
theorem dX1_leader_48 : decode cX1_leader 48 = .ok (.getfield 16, 3) := by decide +kernel
theorem dX1_leader_51 : decode cX1_leader 51 = .ok (.iload_n 1, 1) := by decide +kernel
theorem dX1_leader_52 : decode cX1_leader 52 = .ok (.iaload, 1) := by decide +kernel
theorem dX1_leader_53 : decode cX1_leader 53 = .ok (.invokestatic 85, 3) := by decide +kernel
theorem dX1_leader_56 : decode cX1_leader 56 = .ok (.ifCond .ne 5, 3) := by decide +kernel
theorem dX1_leader_59 : decode cX1_leader 59 = .ok (.iconst 1, 1) := by decide +kernel
theorem dX1_leader_60 : decode cX1_leader 60 = .ok (.istore_n 3, 1) := by decide +kernel
theorem dX1_leader_61 : decode cX1_leader 61 = .ok (.aload_n 0, 1) := by decide +kernel
theorem dX1_leader_62 : decode cX1_leader 62 = .ok (.iload_n 3, 1) := by decide +kernel
theorem dX1_leader_63 : decode cX1_leader 63 = .ok (.invokevirtual 65, 3) := by decide +kernel
theorem dX1_leader_66 : decode cX1_leader 66 = .ok (.ifCond .eq 14, 3) := by decide +kernel
theorem dX1_leader_69 : decode cX1_leader 69 = .ok (.aload_n 0, 1) := by decide +kernel
theorem dX1_leader_70 : decode cX1_leader 70 = .ok (.iload_n 1, 1) := by decide +kernel
theorem dX1_leader_71 : decode cX1_leader 71 = .ok (.iload_n 2, 1) := by decide +kernel
theorem dX1_leader_72 : decode cX1_leader 72 = .ok (.iconst 0, 1) := by decide +kernel
theorem dX1_leader_73 : decode cX1_leader 73 = .ok (.iconst 1, 1) := by decide +kernel
theorem dX1_leader_74 : decode cX1_leader 74 = .ok (.invokevirtual 120, 3) := by decide +kernel
theorem dX1_leader_77 : decode cX1_leader 77 = .ok (.goto 4, 3) := by decide +kernel
theorem dX1_leader_80 : decode cX1_leader 80 = .ok (.iconst 0, 1) := by decide +kernel
theorem dX1_leader_81 : decode cX1_leader 81 = .ok (.ireturn, 1) := by decide +kernel
theorem dX1_differ_0 : decode cX1_differ 0 = .ok (.aload_n 0, 1) := by decide +kernel
theorem dX1_differ_1 : decode cX1_differ 1 = .ok (.aload_n 0, 1) := by decide +kernel
theorem dX1_differ_2 : decode cX1_differ 2 = .ok (.iload_n 1, 1) := by decide +kernel
theorem dX1_differ_3 : decode cX1_differ 3 = .ok (.invokevirtual 75, 3) := by decide +kernel
theorem dX1_differ_6 : decode cX1_differ 6 = .ok (.ifCond .eq 11, 3) := by decide +kernel
theorem dX1_differ_9 : decode cX1_differ 9 = .ok (.aload_n 0, 1) := by decide +kernel
theorem dX1_differ_10 : decode cX1_differ 10 = .ok (.iload_n 2, 1) := by decide +kernel
theorem dX1_differ_11 : decode cX1_differ 11 = .ok (.invokevirtual 75, 3) := by decide +kernel
theorem dX1_differ_14 : decode cX1_differ 14 = .ok (.ifCond .ne 7, 3) := by decide +kernel
theorem dX1_differ_17 : decode cX1_differ 17 = .ok (.iconst 1, 1) := by decide +kernel
theorem dX1_differ_18 : decode cX1_differ 18 = .ok (.goto 4, 3) := by decide +kernel
theorem dX1_differ_21 : decode cX1_differ 21 = .ok (.iconst 0, 1) := by decide +kernel
theorem dX1_differ_22 : decode cX1_differ 22 = .ok (.invokevirtual 65, 3) := by decide +kernel
theorem dX1_differ_25 : decode cX1_differ 25 = .ok (.ifCond .ne 5, 3) := by decide +kernel
theorem dX1_differ_28 : decode cX1_differ 28 = .ok (.iconst 0, 1) := by decide +kernel
theorem dX1_differ_29 : decode cX1_differ 29 = .ok (.ireturn, 1) := by decide +kernel
theorem dX1_differ_30 : decode cX1_differ 30 = .ok (.aload_n 0, 1) := by decide +kernel
theorem dX1_differ_31 : decode cX1_differ 31 = .ok (.iload_n 1, 1) := by decide +kernel
theorem dX1_differ_32 : decode cX1_differ 32 = .ok (.iload_n 2, 1) := by decide +kernel
theorem dX1_differ_33 : decode cX1_differ 33 = .ok (.if_icmp .le 7, 3) := by decide +kernel
theorem dX1_differ_36 : decode cX1_differ 36 = .ok (.iload_n 1, 1) := by decide +kernel
theorem dX1_differ_37 : decode cX1_differ 37 = .ok (.goto 4, 3) := by decide +kernel
theorem dX1_differ_40 : decode cX1_differ 40 = .ok (.iload_n 2, 1) := by decide +kernel
theorem dX1_differ_41 : decode cX1_differ 41 = .ok (.invokevirtual 117, 3) := by decide +kernel
theorem dX1_differ_44 : decode cX1_differ 44 = .ok (.iconst 0, 1) := by decide +kernel
theorem dX1_differ_45 : decode cX1_differ 45 = .ok (.istore_n 3, 1) := by decide +kernel
theorem dX1_differ_46 : decode cX1_differ 46 = .ok (.iload_n 3, 1) := by decide +kernel
theorem dX1_differ_47 : decode cX1_differ 47 = .ok (.sipush 1600, 3) := by decide +kernel
theorem dX1_differ_50 : decode cX1_differ 50 = .ok (.if_icmp .ge 38, 3) := by decide +kernel
theorem dX1_differ_53 : decode cX1_differ 53 = .ok (.aload_n 0, 1) := by decide +kernel
theorem dX1_differ_54 : decode cX1_differ 54 = .ok (.getfield 22, 3) := by decide +kernel
theorem dX1_differ_57 : decode cX1_differ 57 = .ok (.sipush 1600, 3) := by decide +kernel
theorem dX1_differ_60 : decode cX1_differ 60 = .ok (.iload_n 1, 1) := by decide +kernel
theorem dX1_differ_61 : decode cX1_differ 61 = .ok (.imul, 1) := by decide +kernel
theorem dX1_differ_62 : decode cX1_differ 62 = .ok (.iload_n 3, 1) := by decide +kernel
theorem dX1_differ_63 : decode cX1_differ 63 = .ok (.iadd, 1) := by decide +kernel
theorem dX1_differ_64 : decode cX1_differ 64 = .ok (.baload, 1) := by decide +kernel
theorem dX1_differ_65 : decode cX1_differ 65 = .ok (.aload_n 0, 1) := by decide +kernel
theorem dX1_differ_66 : decode cX1_differ 66 = .ok (.getfield 22, 3) := by decide +kernel
theorem dX1_differ_69 : decode cX1_differ 69 = .ok (.sipush 1600, 3) := by decide +kernel
theorem dX1_differ_72 : decode cX1_differ 72 = .ok (.iload_n 2, 1) := by decide +kernel
theorem dX1_differ_73 : decode cX1_differ 73 = .ok (.imul, 1) := by decide +kernel
theorem dX1_differ_74 : decode cX1_differ 74 = .ok (.iload_n 3, 1) := by decide +kernel
theorem dX1_differ_75 : decode cX1_differ 75 = .ok (.iadd, 1) := by decide +kernel
theorem dX1_differ_76 : decode cX1_differ 76 = .ok (.baload, 1) := by decide +kernel
theorem dX1_differ_77 : decode cX1_differ 77 = .ok (.if_icmp .eq 5, 3) := by decide +kernel
theorem dX1_differ_80 : decode cX1_differ 80 = .ok (.iload_n 3, 1) := by decide +kernel
theorem dX1_differ_81 : decode cX1_differ 81 = .ok (.ireturn, 1) := by decide +kernel
theorem dX1_differ_82 : decode cX1_differ 82 = .ok (.iinc 3 1, 3) := by decide +kernel
theorem dX1_differ_85 : decode cX1_differ 85 = .ok (.goto (-39), 3) := by decide +kernel
theorem dX1_differ_88 : decode cX1_differ 88 = .ok (.iconst (-1), 1) := by decide +kernel
theorem dX1_differ_89 : decode cX1_differ 89 = .ok (.ireturn, 1) := by decide +kernel
theorem dX1_tally_0 : decode cX1_tally 0 = .ok (.aload_n 0, 1) := by decide +kernel
theorem dX1_tally_1 : decode cX1_tally 1 = .ok (.aload_n 0, 1) := by decide +kernel
theorem dX1_tally_2 : decode cX1_tally 2 = .ok (.iload_n 1, 1) := by decide +kernel
theorem dX1_tally_3 : decode cX1_tally 3 = .ok (.invokevirtual 61, 3) := by decide +kernel
theorem dX1_tally_6 : decode cX1_tally 6 = .ok (.ifCond .eq 15, 3) := by decide +kernel
theorem dX1_tally_9 : decode cX1_tally 9 = .ok (.aload_n 0, 1) := by decide +kernel
theorem dX1_tally_10 : decode cX1_tally 10 = .ok (.iload_n 2, 1) := by decide +kernel
theorem dX1_tally_11 : decode cX1_tally 11 = .ok (.invokevirtual 61, 3) := by decide +kernel
theorem dX1_tally_14 : decode cX1_tally 14 = .ok (.ifCond .eq 7, 3) := by decide +kernel
theorem dX1_tally_17 : decode cX1_tally 17 = .ok (.iconst 0, 1) := by decide +kernel
theorem dX1_tally_18 : decode cX1_tally 18 = .ok (.goto 4, 3) := by decide +kernel
theorem dX1_tally_21 : decode cX1_tally 21 = .ok (.iconst 1, 1) := by decide +kernel
theorem dX1_tally_22 : decode cX1_tally 22 = .ok (.invokevirtual 65, 3) := by decide +kernel
theorem dX1_tally_25 : decode cX1_tally 25 = .ok (.ifCond .eq 17, 3) := by decide +kernel
theorem dX1_tally_28 : decode cX1_tally 28 = .ok (.aload_n 0, 1) := by decide +kernel
theorem dX1_tally_29 : decode cX1_tally 29 = .ok (.getfield 32, 3) := by decide +kernel
theorem dX1_tally_32 : decode cX1_tally 32 = .ok (.bipush 40, 2) := by decide +kernel
theorem dX1_tally_34 : decode cX1_tally 34 = .ok (.iload_n 1, 1) := by decide +kernel
theorem dX1_tally_35 : decode cX1_tally 35 = .ok (.imul, 1) := by decide +kernel
theorem dX1_tally_36 : decode cX1_tally 36 = .ok (.iload_n 2, 1) := by decide +kernel
theorem dX1_tally_37 : decode cX1_tally 37 = .ok (.iadd, 1) := by decide +kernel
theorem dX1_tally_38 : decode cX1_tally 38 = .ok (.iaload, 1) := by decide +kernel
theorem dX1_tally_39 : decode cX1_tally 39 = .ok (.goto 4, 3) := by decide +kernel
theorem dX1_tally_42 : decode cX1_tally 42 = .ok (.iconst 0, 1) := by decide +kernel
theorem dX1_tally_43 : decode cX1_tally 43 = .ok (.ireturn, 1) := by decide +kernel
theorem dX1_of_0 : decode cX1_of 0 = .ok (.aload_n 0, 1) := by decide +kernel
theorem dX1_of_1 : decode cX1_of 1 = .ok (.iload_n 1, 1) := by decide +kernel
theorem dX1_of_2 : decode cX1_of 2 = .ok (.iconst 0, 1) := by decide +kernel
theorem dX1_of_3 : decode cX1_of 3 = .ok (.iconst 2, 1) := by decide +kernel
theorem dX1_of_4 : decode cX1_of 4 = .ok (.invokestatic 57, 3) := by decide +kernel
theorem dX1_of_7 : decode cX1_of 7 = .ok (.ifCond .eq 7, 3) := by decide +kernel
theorem dX1_of_10 : decode cX1_of 10 = .ok (.iconst 0, 1) := by decide +kernel
theorem dX1_of_11 : decode cX1_of 11 = .ok (.goto 4, 3) := by decide +kernel
theorem dX1_of_14 : decode cX1_of 14 = .ok (.iconst 1, 1) := by decide +kernel
theorem dX1_of_15 : decode cX1_of 15 = .ok (.invokevirtual 65, 3) := by decide +kernel
theorem dX1_of_18 : decode cX1_of 18 = .ok (.ifCond .ne 5, 3) := by decide +kernel
theorem dX1_of_21 : decode cX1_of 21 = .ok (.iconst 0, 1) := by decide +kernel
theorem dX1_of_22 : decode cX1_of 22 = .ok (.ireturn, 1) := by decide +kernel
theorem dX1_of_23 : decode cX1_of 23 = .ok (.iload_n 1, 1) := by decide +kernel
theorem dX1_of_24 : decode cX1_of 24 = .ok (.ifCond .ne 10, 3) := by decide +kernel
theorem dX1_of_27 : decode cX1_of 27 = .ok (.aload_n 0, 1) := by decide +kernel
theorem dX1_of_28 : decode cX1_of 28 = .ok (.getfield 41, 3) := by decide +kernel
theorem dX1_of_31 : decode cX1_of 31 = .ok (.goto 19, 3) := by decide +kernel
theorem dX1_of_34 : decode cX1_of 34 = .ok (.iload_n 1, 1) := by decide +kernel
theorem dX1_of_35 : decode cX1_of 35 = .ok (.iconst 1, 1) := by decide +kernel
theorem dX1_of_36 : decode cX1_of 36 = .ok (.if_icmp .ne 10, 3) := by decide +kernel
theorem dX1_of_39 : decode cX1_of 39 = .ok (.aload_n 0, 1) := by decide +kernel
theorem dX1_of_40 : decode cX1_of 40 = .ok (.getfield 51, 3) := by decide +kernel
theorem dX1_of_43 : decode cX1_of 43 = .ok (.goto 7, 3) := by decide +kernel
theorem dX1_of_46 : decode cX1_of 46 = .ok (.aload_n 0, 1) := by decide +kernel
theorem dX1_of_47 : decode cX1_of 47 = .ok (.getfield 54, 3) := by decide +kernel
theorem dX1_of_50 : decode cX1_of 50 = .ok (.ireturn, 1) := by decide +kernel
theorem dX1_told_0 : decode cX1_told 0 = .ok (.aload_n 0, 1) := by decide +kernel
theorem dX1_told_1 : decode cX1_told 1 = .ok (.aload_n 0, 1) := by decide +kernel
theorem dX1_told_2 : decode cX1_told 2 = .ok (.iload_n 1, 1) := by decide +kernel
theorem dX1_told_3 : decode cX1_told 3 = .ok (.invokevirtual 75, 3) := by decide +kernel
theorem dX1_told_6 : decode cX1_told 6 = .ok (.ifCond .eq 12, 3) := by decide +kernel
theorem dX1_told_9 : decode cX1_told 9 = .ok (.iload_n 2, 1) := by decide +kernel
theorem dX1_told_10 : decode cX1_told 10 = .ok (.iconst 0, 1) := by decide +kernel
theorem dX1_told_11 : decode cX1_told 11 = .ok (.iconst 2, 1) := by decide +kernel
theorem dX1_told_12 : decode cX1_told 12 = .ok (.invokestatic 57, 3) := by decide +kernel
theorem dX1_told_15 : decode cX1_told 15 = .ok (.ifCond .ne 7, 3) := by decide +kernel
theorem dX1_told_18 : decode cX1_told 18 = .ok (.iconst 1, 1) := by decide +kernel
theorem dX1_told_19 : decode cX1_told 19 = .ok (.goto 4, 3) := by decide +kernel
theorem dX1_told_22 : decode cX1_told 22 = .ok (.iconst 0, 1) := by decide +kernel
theorem dX1_told_23 : decode cX1_told 23 = .ok (.invokevirtual 65, 3) := by decide +kernel
theorem dX1_told_26 : decode cX1_told 26 = .ok (.ifCond .ne 5, 3) := by decide +kernel
theorem dX1_told_29 : decode cX1_told 29 = .ok (.iconst 0, 1) := by decide +kernel
theorem dX1_told_30 : decode cX1_told 30 = .ok (.ireturn, 1) := by decide +kernel
theorem dX1_told_31 : decode cX1_told 31 = .ok (.iload_n 2, 1) := by decide +kernel
theorem dX1_told_32 : decode cX1_told 32 = .ok (.ifCond .ne 12, 3) := by decide +kernel
theorem dX1_told_35 : decode cX1_told 35 = .ok (.aload_n 0, 1) := by decide +kernel
theorem dX1_told_36 : decode cX1_told 36 = .ok (.getfield 13, 3) := by decide +kernel
theorem dX1_told_39 : decode cX1_told 39 = .ok (.iload_n 1, 1) := by decide +kernel
theorem dX1_told_40 : decode cX1_told 40 = .ok (.iaload, 1) := by decide +kernel
theorem dX1_told_41 : decode cX1_told 41 = .ok (.goto 23, 3) := by decide +kernel
theorem dX1_told_44 : decode cX1_told 44 = .ok (.iload_n 2, 1) := by decide +kernel
theorem dX1_told_45 : decode cX1_told 45 = .ok (.iconst 1, 1) := by decide +kernel
theorem dX1_told_46 : decode cX1_told 46 = .ok (.if_icmp .ne 12, 3) := by decide +kernel
theorem dX1_told_49 : decode cX1_told 49 = .ok (.aload_n 0, 1) := by decide +kernel
theorem dX1_told_50 : decode cX1_told 50 = .ok (.getfield 16, 3) := by decide +kernel
theorem dX1_told_53 : decode cX1_told 53 = .ok (.iload_n 1, 1) := by decide +kernel
theorem dX1_told_54 : decode cX1_told 54 = .ok (.iaload, 1) := by decide +kernel
theorem dX1_told_55 : decode cX1_told 55 = .ok (.goto 9, 3) := by decide +kernel
theorem dX1_told_58 : decode cX1_told 58 = .ok (.aload_n 0, 1) := by decide +kernel
theorem dX1_told_59 : decode cX1_told 59 = .ok (.getfield 19, 3) := by decide +kernel
theorem dX1_told_62 : decode cX1_told 62 = .ok (.iload_n 1, 1) := by decide +kernel
theorem dX1_told_63 : decode cX1_told 63 = .ok (.iaload, 1) := by decide +kernel
theorem dX1_told_64 : decode cX1_told 64 = .ok (.ireturn, 1) := by decide +kernel
end
section
theorem dJx00060_init_a7421_0 : decode cJx00060_init_a7421 0 = .ok (.aload_n 0, 1) := by decide +kernel
theorem dJx00060_init_a7421_1 : decode cJx00060_init_a7421 1 = .ok (.aload_n 1, 1) := by decide +kernel
theorem dJx00060_init_a7421_2 : decode cJx00060_init_a7421 2 = .ok (.invokespecial 7, 3) := by decide +kernel
theorem dJx00060_init_a7421_5 : decode cJx00060_init_a7421 5 = .ok (.return_, 1) := by decide +kernel
theorem dJ6_numberOfTrailingZeros_0f7a4_0 : decode cJ6_numberOfTrailingZeros_0f7a4 0 = .ok (.iload_n 0, 1) := by decide +kernel
theorem dJ6_numberOfTrailingZeros_0f7a4_1 : decode cJ6_numberOfTrailingZeros_0f7a4 1 = .ok (.iconst (-1), 1) := by decide +kernel
theorem dJ6_numberOfTrailingZeros_0f7a4_2 : decode cJ6_numberOfTrailingZeros_0f7a4 2 = .ok (.ixor, 1) := by decide +kernel
theorem dJ6_numberOfTrailingZeros_0f7a4_3 : decode cJ6_numberOfTrailingZeros_0f7a4 3 = .ok (.iload_n 0, 1) := by decide +kernel
theorem dJ6_numberOfTrailingZeros_0f7a4_4 : decode cJ6_numberOfTrailingZeros_0f7a4 4 = .ok (.iconst 1, 1) := by decide +kernel
theorem dJ6_numberOfTrailingZeros_0f7a4_5 : decode cJ6_numberOfTrailingZeros_0f7a4 5 = .ok (.isub, 1) := by decide +kernel
theorem dJ6_numberOfTrailingZeros_0f7a4_6 : decode cJ6_numberOfTrailingZeros_0f7a4 6 = .ok (.iand, 1) := by decide +kernel
theorem dJ6_numberOfTrailingZeros_0f7a4_7 : decode cJ6_numberOfTrailingZeros_0f7a4 7 = .ok (.istore_n 0, 1) := by decide +kernel
theorem dJ6_numberOfTrailingZeros_0f7a4_8 : decode cJ6_numberOfTrailingZeros_0f7a4 8 = .ok (.iload_n 0, 1) := by decide +kernel
theorem dJ6_numberOfTrailingZeros_0f7a4_9 : decode cJ6_numberOfTrailingZeros_0f7a4 9 = .ok (.ifCond .gt 8, 3) := by decide +kernel
theorem dJ6_numberOfTrailingZeros_0f7a4_12 : decode cJ6_numberOfTrailingZeros_0f7a4 12 = .ok (.iload_n 0, 1) := by decide +kernel
theorem dJ6_numberOfTrailingZeros_0f7a4_13 : decode cJ6_numberOfTrailingZeros_0f7a4 13 = .ok (.bipush 32, 2) := by decide +kernel
theorem dJ6_numberOfTrailingZeros_0f7a4_15 : decode cJ6_numberOfTrailingZeros_0f7a4 15 = .ok (.iand, 1) := by decide +kernel
theorem dJ6_numberOfTrailingZeros_0f7a4_16 : decode cJ6_numberOfTrailingZeros_0f7a4 16 = .ok (.ireturn, 1) := by decide +kernel
theorem dJ6_numberOfTrailingZeros_0f7a4_17 : decode cJ6_numberOfTrailingZeros_0f7a4 17 = .ok (.iconst 1, 1) := by decide +kernel
theorem dJ6_numberOfTrailingZeros_0f7a4_18 : decode cJ6_numberOfTrailingZeros_0f7a4 18 = .ok (.istore_n 1, 1) := by decide +kernel
theorem dJ6_numberOfTrailingZeros_0f7a4_19 : decode cJ6_numberOfTrailingZeros_0f7a4 19 = .ok (.iload_n 0, 1) := by decide +kernel
theorem dJ6_numberOfTrailingZeros_0f7a4_20 : decode cJ6_numberOfTrailingZeros_0f7a4 20 = .ok (.ldc_w 264, 3) := by decide +kernel
theorem dJ6_numberOfTrailingZeros_0f7a4_23 : decode cJ6_numberOfTrailingZeros_0f7a4 23 = .ok (.if_icmp .le 11, 3) := by decide +kernel
theorem dJ6_numberOfTrailingZeros_0f7a4_26 : decode cJ6_numberOfTrailingZeros_0f7a4 26 = .ok (.iinc 1 16, 3) := by decide +kernel
theorem dJ6_numberOfTrailingZeros_0f7a4_29 : decode cJ6_numberOfTrailingZeros_0f7a4 29 = .ok (.iload_n 0, 1) := by decide +kernel
theorem dJ6_numberOfTrailingZeros_0f7a4_30 : decode cJ6_numberOfTrailingZeros_0f7a4 30 = .ok (.bipush 16, 2) := by decide +kernel
theorem dJ6_numberOfTrailingZeros_0f7a4_32 : decode cJ6_numberOfTrailingZeros_0f7a4 32 = .ok (.iushr, 1) := by decide +kernel
theorem dJ6_numberOfTrailingZeros_0f7a4_33 : decode cJ6_numberOfTrailingZeros_0f7a4 33 = .ok (.istore_n 0, 1) := by decide +kernel
theorem dJ6_numberOfTrailingZeros_0f7a4_34 : decode cJ6_numberOfTrailingZeros_0f7a4 34 = .ok (.iload_n 0, 1) := by decide +kernel
theorem dJ6_numberOfTrailingZeros_0f7a4_35 : decode cJ6_numberOfTrailingZeros_0f7a4 35 = .ok (.sipush 256, 3) := by decide +kernel
theorem dJ6_numberOfTrailingZeros_0f7a4_38 : decode cJ6_numberOfTrailingZeros_0f7a4 38 = .ok (.if_icmp .le 11, 3) := by decide +kernel
theorem dJ6_numberOfTrailingZeros_0f7a4_41 : decode cJ6_numberOfTrailingZeros_0f7a4 41 = .ok (.iinc 1 8, 3) := by decide +kernel
theorem dJ6_numberOfTrailingZeros_0f7a4_44 : decode cJ6_numberOfTrailingZeros_0f7a4 44 = .ok (.iload_n 0, 1) := by decide +kernel
theorem dJ6_numberOfTrailingZeros_0f7a4_45 : decode cJ6_numberOfTrailingZeros_0f7a4 45 = .ok (.bipush 8, 2) := by decide +kernel
theorem dJ6_numberOfTrailingZeros_0f7a4_47 : decode cJ6_numberOfTrailingZeros_0f7a4 47 = .ok (.iushr, 1) := by decide +kernel
theorem dJ6_numberOfTrailingZeros_0f7a4_48 : decode cJ6_numberOfTrailingZeros_0f7a4 48 = .ok (.istore_n 0, 1) := by decide +kernel
theorem dJ6_numberOfTrailingZeros_0f7a4_49 : decode cJ6_numberOfTrailingZeros_0f7a4 49 = .ok (.iload_n 0, 1) := by decide +kernel
theorem dJ6_numberOfTrailingZeros_0f7a4_50 : decode cJ6_numberOfTrailingZeros_0f7a4 50 = .ok (.bipush 16, 2) := by decide +kernel
theorem dJ6_numberOfTrailingZeros_0f7a4_52 : decode cJ6_numberOfTrailingZeros_0f7a4 52 = .ok (.if_icmp .le 10, 3) := by decide +kernel
theorem dJ6_numberOfTrailingZeros_0f7a4_55 : decode cJ6_numberOfTrailingZeros_0f7a4 55 = .ok (.iinc 1 4, 3) := by decide +kernel
theorem dJ6_numberOfTrailingZeros_0f7a4_58 : decode cJ6_numberOfTrailingZeros_0f7a4 58 = .ok (.iload_n 0, 1) := by decide +kernel
theorem dJ6_numberOfTrailingZeros_0f7a4_59 : decode cJ6_numberOfTrailingZeros_0f7a4 59 = .ok (.iconst 4, 1) := by decide +kernel
theorem dJ6_numberOfTrailingZeros_0f7a4_60 : decode cJ6_numberOfTrailingZeros_0f7a4 60 = .ok (.iushr, 1) := by decide +kernel
theorem dJ6_numberOfTrailingZeros_0f7a4_61 : decode cJ6_numberOfTrailingZeros_0f7a4 61 = .ok (.istore_n 0, 1) := by decide +kernel
theorem dJ6_numberOfTrailingZeros_0f7a4_62 : decode cJ6_numberOfTrailingZeros_0f7a4 62 = .ok (.iload_n 0, 1) := by decide +kernel
theorem dJ6_numberOfTrailingZeros_0f7a4_63 : decode cJ6_numberOfTrailingZeros_0f7a4 63 = .ok (.iconst 4, 1) := by decide +kernel
theorem dJ6_numberOfTrailingZeros_0f7a4_64 : decode cJ6_numberOfTrailingZeros_0f7a4 64 = .ok (.if_icmp .le 10, 3) := by decide +kernel
theorem dJ6_numberOfTrailingZeros_0f7a4_67 : decode cJ6_numberOfTrailingZeros_0f7a4 67 = .ok (.iinc 1 2, 3) := by decide +kernel
theorem dJ6_numberOfTrailingZeros_0f7a4_70 : decode cJ6_numberOfTrailingZeros_0f7a4 70 = .ok (.iload_n 0, 1) := by decide +kernel
theorem dJ6_numberOfTrailingZeros_0f7a4_71 : decode cJ6_numberOfTrailingZeros_0f7a4 71 = .ok (.iconst 2, 1) := by decide +kernel
theorem dJ6_numberOfTrailingZeros_0f7a4_72 : decode cJ6_numberOfTrailingZeros_0f7a4 72 = .ok (.iushr, 1) := by decide +kernel
theorem dJ6_numberOfTrailingZeros_0f7a4_73 : decode cJ6_numberOfTrailingZeros_0f7a4 73 = .ok (.istore_n 0, 1) := by decide +kernel
theorem dJ6_numberOfTrailingZeros_0f7a4_74 : decode cJ6_numberOfTrailingZeros_0f7a4 74 = .ok (.iload_n 1, 1) := by decide +kernel
theorem dJ6_numberOfTrailingZeros_0f7a4_75 : decode cJ6_numberOfTrailingZeros_0f7a4 75 = .ok (.iload_n 0, 1) := by decide +kernel
theorem dJ6_numberOfTrailingZeros_0f7a4_76 : decode cJ6_numberOfTrailingZeros_0f7a4 76 = .ok (.iconst 1, 1) := by decide +kernel
theorem dJ6_numberOfTrailingZeros_0f7a4_77 : decode cJ6_numberOfTrailingZeros_0f7a4 77 = .ok (.iushr, 1) := by decide +kernel
theorem dJ6_numberOfTrailingZeros_0f7a4_78 : decode cJ6_numberOfTrailingZeros_0f7a4 78 = .ok (.iadd, 1) := by decide +kernel
theorem dJ6_numberOfTrailingZeros_0f7a4_79 : decode cJ6_numberOfTrailingZeros_0f7a4 79 = .ok (.ireturn, 1) := by decide +kernel
theorem dJ13_numberOfTrailingZeros_95d88_0 : decode cJ13_numberOfTrailingZeros_95d88 0 = .ok (.lload_n 0, 1) := by decide +kernel
theorem dJ13_numberOfTrailingZeros_95d88_1 : decode cJ13_numberOfTrailingZeros_95d88 1 = .ok (.l2i, 1) := by decide +kernel
theorem dJ13_numberOfTrailingZeros_95d88_2 : decode cJ13_numberOfTrailingZeros_95d88 2 = .ok (.istore_n 2, 1) := by decide +kernel
theorem dJ13_numberOfTrailingZeros_95d88_3 : decode cJ13_numberOfTrailingZeros_95d88 3 = .ok (.iload_n 2, 1) := by decide +kernel
theorem dJ13_numberOfTrailingZeros_95d88_4 : decode cJ13_numberOfTrailingZeros_95d88 4 = .ok (.ifCond .ne 17, 3) := by decide +kernel
theorem dJ13_numberOfTrailingZeros_95d88_7 : decode cJ13_numberOfTrailingZeros_95d88 7 = .ok (.bipush 32, 2) := by decide +kernel
theorem dJ13_numberOfTrailingZeros_95d88_9 : decode cJ13_numberOfTrailingZeros_95d88 9 = .ok (.lload_n 0, 1) := by decide +kernel
theorem dJ13_numberOfTrailingZeros_95d88_10 : decode cJ13_numberOfTrailingZeros_95d88 10 = .ok (.bipush 32, 2) := by decide +kernel
theorem dJ13_numberOfTrailingZeros_95d88_12 : decode cJ13_numberOfTrailingZeros_95d88 12 = .ok (.lushr, 1) := by decide +kernel
theorem dJ13_numberOfTrailingZeros_95d88_13 : decode cJ13_numberOfTrailingZeros_95d88 13 = .ok (.l2i, 1) := by decide +kernel
theorem dJ13_numberOfTrailingZeros_95d88_14 : decode cJ13_numberOfTrailingZeros_95d88 14 = .ok (.invokestatic 311, 3) := by decide +kernel
theorem dJ13_numberOfTrailingZeros_95d88_17 : decode cJ13_numberOfTrailingZeros_95d88 17 = .ok (.iadd, 1) := by decide +kernel
theorem dJ13_numberOfTrailingZeros_95d88_18 : decode cJ13_numberOfTrailingZeros_95d88 18 = .ok (.goto 7, 3) := by decide +kernel
theorem dJ13_numberOfTrailingZeros_95d88_21 : decode cJ13_numberOfTrailingZeros_95d88 21 = .ok (.iload_n 2, 1) := by decide +kernel
theorem dJ13_numberOfTrailingZeros_95d88_22 : decode cJ13_numberOfTrailingZeros_95d88 22 = .ok (.invokestatic 311, 3) := by decide +kernel
theorem dJ13_numberOfTrailingZeros_95d88_25 : decode cJ13_numberOfTrailingZeros_95d88 25 = .ok (.ireturn, 1) := by decide +kernel
theorem dJ13_bitCount_95d88_0 : decode cJ13_bitCount_95d88 0 = .ok (.lload_n 0, 1) := by decide +kernel
theorem dJ13_bitCount_95d88_1 : decode cJ13_bitCount_95d88 1 = .ok (.lload_n 0, 1) := by decide +kernel
theorem dJ13_bitCount_95d88_2 : decode cJ13_bitCount_95d88 2 = .ok (.iconst 1, 1) := by decide +kernel
theorem dJ13_bitCount_95d88_3 : decode cJ13_bitCount_95d88 3 = .ok (.lushr, 1) := by decide +kernel
theorem dJ13_bitCount_95d88_4 : decode cJ13_bitCount_95d88 4 = .ok (.ldc2_w 314, 3) := by decide +kernel
theorem dJ13_bitCount_95d88_7 : decode cJ13_bitCount_95d88 7 = .ok (.land, 1) := by decide +kernel
theorem dJ13_bitCount_95d88_8 : decode cJ13_bitCount_95d88 8 = .ok (.lsub, 1) := by decide +kernel
theorem dJ13_bitCount_95d88_9 : decode cJ13_bitCount_95d88 9 = .ok (.lstore_n 0, 1) := by decide +kernel
theorem dJ13_bitCount_95d88_10 : decode cJ13_bitCount_95d88 10 = .ok (.lload_n 0, 1) := by decide +kernel
theorem dJ13_bitCount_95d88_11 : decode cJ13_bitCount_95d88 11 = .ok (.ldc2_w 316, 3) := by decide +kernel
theorem dJ13_bitCount_95d88_14 : decode cJ13_bitCount_95d88 14 = .ok (.land, 1) := by decide +kernel
theorem dJ13_bitCount_95d88_15 : decode cJ13_bitCount_95d88 15 = .ok (.lload_n 0, 1) := by decide +kernel
theorem dJ13_bitCount_95d88_16 : decode cJ13_bitCount_95d88 16 = .ok (.iconst 2, 1) := by decide +kernel
theorem dJ13_bitCount_95d88_17 : decode cJ13_bitCount_95d88 17 = .ok (.lushr, 1) := by decide +kernel
theorem dJ13_bitCount_95d88_18 : decode cJ13_bitCount_95d88 18 = .ok (.ldc2_w 316, 3) := by decide +kernel
theorem dJ13_bitCount_95d88_21 : decode cJ13_bitCount_95d88 21 = .ok (.land, 1) := by decide +kernel
theorem dJ13_bitCount_95d88_22 : decode cJ13_bitCount_95d88 22 = .ok (.ladd, 1) := by decide +kernel
theorem dJ13_bitCount_95d88_23 : decode cJ13_bitCount_95d88 23 = .ok (.lstore_n 0, 1) := by decide +kernel
theorem dJ13_bitCount_95d88_24 : decode cJ13_bitCount_95d88 24 = .ok (.lload_n 0, 1) := by decide +kernel
theorem dJ13_bitCount_95d88_25 : decode cJ13_bitCount_95d88 25 = .ok (.lload_n 0, 1) := by decide +kernel
theorem dJ13_bitCount_95d88_26 : decode cJ13_bitCount_95d88 26 = .ok (.iconst 4, 1) := by decide +kernel
theorem dJ13_bitCount_95d88_27 : decode cJ13_bitCount_95d88 27 = .ok (.lushr, 1) := by decide +kernel
theorem dJ13_bitCount_95d88_28 : decode cJ13_bitCount_95d88 28 = .ok (.ladd, 1) := by decide +kernel
theorem dJ13_bitCount_95d88_29 : decode cJ13_bitCount_95d88 29 = .ok (.ldc2_w 318, 3) := by decide +kernel
theorem dJ13_bitCount_95d88_32 : decode cJ13_bitCount_95d88 32 = .ok (.land, 1) := by decide +kernel
theorem dJ13_bitCount_95d88_33 : decode cJ13_bitCount_95d88 33 = .ok (.lstore_n 0, 1) := by decide +kernel
theorem dJ13_bitCount_95d88_34 : decode cJ13_bitCount_95d88 34 = .ok (.lload_n 0, 1) := by decide +kernel
theorem dJ13_bitCount_95d88_35 : decode cJ13_bitCount_95d88 35 = .ok (.lload_n 0, 1) := by decide +kernel
theorem dJ13_bitCount_95d88_36 : decode cJ13_bitCount_95d88 36 = .ok (.bipush 8, 2) := by decide +kernel
theorem dJ13_bitCount_95d88_38 : decode cJ13_bitCount_95d88 38 = .ok (.lushr, 1) := by decide +kernel
theorem dJ13_bitCount_95d88_39 : decode cJ13_bitCount_95d88 39 = .ok (.ladd, 1) := by decide +kernel
theorem dJ13_bitCount_95d88_40 : decode cJ13_bitCount_95d88 40 = .ok (.lstore_n 0, 1) := by decide +kernel
theorem dJ13_bitCount_95d88_41 : decode cJ13_bitCount_95d88 41 = .ok (.lload_n 0, 1) := by decide +kernel
theorem dJ13_bitCount_95d88_42 : decode cJ13_bitCount_95d88 42 = .ok (.lload_n 0, 1) := by decide +kernel
theorem dJ13_bitCount_95d88_43 : decode cJ13_bitCount_95d88 43 = .ok (.bipush 16, 2) := by decide +kernel
theorem dJ13_bitCount_95d88_45 : decode cJ13_bitCount_95d88 45 = .ok (.lushr, 1) := by decide +kernel
theorem dJ13_bitCount_95d88_46 : decode cJ13_bitCount_95d88 46 = .ok (.ladd, 1) := by decide +kernel
theorem dJ13_bitCount_95d88_47 : decode cJ13_bitCount_95d88 47 = .ok (.lstore_n 0, 1) := by decide +kernel
theorem dJ13_bitCount_95d88_48 : decode cJ13_bitCount_95d88 48 = .ok (.lload_n 0, 1) := by decide +kernel
theorem dJ13_bitCount_95d88_49 : decode cJ13_bitCount_95d88 49 = .ok (.lload_n 0, 1) := by decide +kernel
theorem dJ13_bitCount_95d88_50 : decode cJ13_bitCount_95d88 50 = .ok (.bipush 32, 2) := by decide +kernel
theorem dJ13_bitCount_95d88_52 : decode cJ13_bitCount_95d88 52 = .ok (.lushr, 1) := by decide +kernel
theorem dJ13_bitCount_95d88_53 : decode cJ13_bitCount_95d88 53 = .ok (.ladd, 1) := by decide +kernel
theorem dJ13_bitCount_95d88_54 : decode cJ13_bitCount_95d88 54 = .ok (.lstore_n 0, 1) := by decide +kernel
theorem dJ13_bitCount_95d88_55 : decode cJ13_bitCount_95d88 55 = .ok (.lload_n 0, 1) := by decide +kernel
theorem dJ13_bitCount_95d88_56 : decode cJ13_bitCount_95d88 56 = .ok (.l2i, 1) := by decide +kernel
theorem dJ13_bitCount_95d88_57 : decode cJ13_bitCount_95d88 57 = .ok (.bipush 127, 2) := by decide +kernel
theorem dJ13_bitCount_95d88_59 : decode cJ13_bitCount_95d88 59 = .ok (.iand, 1) := by decide +kernel
theorem dJ13_bitCount_95d88_60 : decode cJ13_bitCount_95d88 60 = .ok (.ireturn, 1) := by decide +kernel
theorem dJ9_max_7cf53_0 : decode cJ9_max_7cf53 0 = .ok (.iload_n 0, 1) := by decide +kernel
theorem dJ9_max_7cf53_1 : decode cJ9_max_7cf53 1 = .ok (.iload_n 1, 1) := by decide +kernel
theorem dJ9_max_7cf53_2 : decode cJ9_max_7cf53 2 = .ok (.if_icmp .lt 7, 3) := by decide +kernel
theorem dJ9_max_7cf53_5 : decode cJ9_max_7cf53 5 = .ok (.iload_n 0, 1) := by decide +kernel
theorem dJ9_max_7cf53_6 : decode cJ9_max_7cf53 6 = .ok (.goto 4, 3) := by decide +kernel
theorem dJ9_max_7cf53_9 : decode cJ9_max_7cf53 9 = .ok (.iload_n 1, 1) := by decide +kernel
theorem dJ9_max_7cf53_10 : decode cJ9_max_7cf53 10 = .ok (.ireturn, 1) := by decide +kernel
theorem dJ9_min_7cf53_0 : decode cJ9_min_7cf53 0 = .ok (.iload_n 0, 1) := by decide +kernel
theorem dJ9_min_7cf53_1 : decode cJ9_min_7cf53 1 = .ok (.iload_n 1, 1) := by decide +kernel
theorem dJ9_min_7cf53_2 : decode cJ9_min_7cf53 2 = .ok (.if_icmp .gt 7, 3) := by decide +kernel
theorem dJ9_min_7cf53_5 : decode cJ9_min_7cf53 5 = .ok (.iload_n 0, 1) := by decide +kernel
theorem dJ9_min_7cf53_6 : decode cJ9_min_7cf53 6 = .ok (.goto 4, 3) := by decide +kernel
theorem dJ9_min_7cf53_9 : decode cJ9_min_7cf53 9 = .ok (.iload_n 1, 1) := by decide +kernel
theorem dJ9_min_7cf53_10 : decode cJ9_min_7cf53 10 = .ok (.ireturn, 1) := by decide +kernel
theorem dJ7_fill_53178_0 : decode cJ7_fill_53178 0 = .ok (.iconst 0, 1) := by decide +kernel
theorem dJ7_fill_53178_1 : decode cJ7_fill_53178 1 = .ok (.istore_n 2, 1) := by decide +kernel
theorem dJ7_fill_53178_2 : decode cJ7_fill_53178 2 = .ok (.aload_n 0, 1) := by decide +kernel
theorem dJ7_fill_53178_3 : decode cJ7_fill_53178 3 = .ok (.arraylength, 1) := by decide +kernel
theorem dJ7_fill_53178_4 : decode cJ7_fill_53178 4 = .ok (.istore_n 3, 1) := by decide +kernel
theorem dJ7_fill_53178_5 : decode cJ7_fill_53178 5 = .ok (.iload_n 2, 1) := by decide +kernel
theorem dJ7_fill_53178_6 : decode cJ7_fill_53178 6 = .ok (.iload_n 3, 1) := by decide +kernel
theorem dJ7_fill_53178_7 : decode cJ7_fill_53178 7 = .ok (.if_icmp .ge 13, 3) := by decide +kernel
theorem dJ7_fill_53178_10 : decode cJ7_fill_53178 10 = .ok (.aload_n 0, 1) := by decide +kernel
theorem dJ7_fill_53178_11 : decode cJ7_fill_53178 11 = .ok (.iload_n 2, 1) := by decide +kernel
theorem dJ7_fill_53178_12 : decode cJ7_fill_53178 12 = .ok (.iload_n 1, 1) := by decide +kernel
theorem dJ7_fill_53178_13 : decode cJ7_fill_53178 13 = .ok (.iastore, 1) := by decide +kernel
theorem dJ7_fill_53178_14 : decode cJ7_fill_53178 14 = .ok (.iinc 2 1, 3) := by decide +kernel
theorem dJ7_fill_53178_17 : decode cJ7_fill_53178 17 = .ok (.goto (-12), 3) := by decide +kernel
theorem dJ7_fill_53178_20 : decode cJ7_fill_53178 20 = .ok (.return_, 1) := by decide +kernel
theorem dL_cell_0 : decode cL_cell 0 = .ok (.iload_n 1, 1) := by decide +kernel
theorem dL_cell_1 : decode cL_cell 1 = .ok (.aload_n 0, 1) := by decide +kernel
theorem dL_cell_2 : decode cL_cell 2 = .ok (.arraylength, 1) := by decide +kernel
theorem dL_cell_3 : decode cL_cell 3 = .ok (.if_icmp .ge 9, 3) := by decide +kernel
theorem dL_cell_6 : decode cL_cell 6 = .ok (.aload_n 0, 1) := by decide +kernel
theorem dL_cell_7 : decode cL_cell 7 = .ok (.iload_n 1, 1) := by decide +kernel
theorem dL_cell_8 : decode cL_cell 8 = .ok (.iaload, 1) := by decide +kernel
theorem dL_cell_9 : decode cL_cell 9 = .ok (.goto 4, 3) := by decide +kernel
theorem dL_cell_12 : decode cL_cell 12 = .ok (.iconst 0, 1) := by decide +kernel
theorem dL_cell_13 : decode cL_cell 13 = .ok (.ireturn, 1) := by decide +kernel
theorem dL_kind_0 : decode cL_kind 0 = .ok (.aload_n 3, 1) := by decide +kernel
theorem dL_kind_1 : decode cL_kind 1 = .ok (.iconst 0, 1) := by decide +kernel
theorem dL_kind_2 : decode cL_kind 2 = .ok (.aload_n 0, 1) := by decide +kernel
theorem dL_kind_3 : decode cL_kind 3 = .ok (.iload_n 1, 1) := by decide +kernel
theorem dL_kind_4 : decode cL_kind 4 = .ok (.iload_n 2, 1) := by decide +kernel
theorem dL_kind_5 : decode cL_kind 5 = .ok (.invokevirtual 7, 3) := by decide +kernel
theorem dL_kind_8 : decode cL_kind 8 = .ok (.i2l, 1) := by decide +kernel
theorem dL_kind_9 : decode cL_kind 9 = .ok (.lastore, 1) := by decide +kernel
theorem dL_kind_10 : decode cL_kind 10 = .ok (.goto 11, 3) := by decide +kernel
theorem dL_kind_13 : decode cL_kind 13 = .ok (.astore 4, 2) := by decide +kernel
theorem dL_kind_15 : decode cL_kind 15 = .ok (.iconst 1, 1) := by decide +kernel
theorem dL_kind_16 : decode cL_kind 16 = .ok (.ireturn, 1) := by decide +kernel
theorem dL_kind_17 : decode cL_kind 17 = .ok (.astore 4, 2) := by decide +kernel
theorem dL_kind_19 : decode cL_kind 19 = .ok (.iconst 2, 1) := by decide +kernel
theorem dL_kind_20 : decode cL_kind 20 = .ok (.ireturn, 1) := by decide +kernel
theorem dL_kind_21 : decode cL_kind 21 = .ok (.iconst 0, 1) := by decide +kernel
theorem dL_kind_22 : decode cL_kind 22 = .ok (.ireturn, 1) := by decide +kernel
theorem dL_relation_0 : decode cL_relation 0 = .ok (.aload 4, 2) := by decide +kernel
theorem dL_relation_2 : decode cL_relation 2 = .ok (.iconst 0, 1) := by decide +kernel
theorem dL_relation_3 : decode cL_relation 3 = .ok (.aload_n 0, 1) := by decide +kernel
theorem dL_relation_4 : decode cL_relation 4 = .ok (.iload_n 1, 1) := by decide +kernel
theorem dL_relation_5 : decode cL_relation 5 = .ok (.iload_n 2, 1) := by decide +kernel
theorem dL_relation_6 : decode cL_relation 6 = .ok (.iload_n 3, 1) := by decide +kernel
theorem dL_relation_7 : decode cL_relation 7 = .ok (.invokevirtual 17, 3) := by decide +kernel
theorem dL_relation_10 : decode cL_relation 10 = .ok (.i2l, 1) := by decide +kernel
theorem dL_relation_11 : decode cL_relation 11 = .ok (.lastore, 1) := by decide +kernel
theorem dL_relation_12 : decode cL_relation 12 = .ok (.goto 11, 3) := by decide +kernel
theorem dL_relation_15 : decode cL_relation 15 = .ok (.astore 5, 2) := by decide +kernel
theorem dL_relation_17 : decode cL_relation 17 = .ok (.iconst 1, 1) := by decide +kernel
theorem dL_relation_18 : decode cL_relation 18 = .ok (.ireturn, 1) := by decide +kernel
theorem dL_relation_19 : decode cL_relation 19 = .ok (.astore 5, 2) := by decide +kernel
theorem dL_relation_21 : decode cL_relation 21 = .ok (.iconst 2, 1) := by decide +kernel
theorem dL_relation_22 : decode cL_relation 22 = .ok (.ireturn, 1) := by decide +kernel
theorem dL_relation_23 : decode cL_relation 23 = .ok (.iconst 0, 1) := by decide +kernel
theorem dL_relation_24 : decode cL_relation 24 = .ok (.ireturn, 1) := by decide +kernel
theorem dL_condition_0 : decode cL_condition 0 = .ok (.aload 4, 2) := by decide +kernel
theorem dL_condition_2 : decode cL_condition 2 = .ok (.iconst 0, 1) := by decide +kernel
theorem dL_condition_3 : decode cL_condition 3 = .ok (.aload_n 0, 1) := by decide +kernel
theorem dL_condition_4 : decode cL_condition 4 = .ok (.iload_n 1, 1) := by decide +kernel
theorem dL_condition_5 : decode cL_condition 5 = .ok (.iload_n 2, 1) := by decide +kernel
theorem dL_condition_6 : decode cL_condition 6 = .ok (.iload_n 3, 1) := by decide +kernel
theorem dL_condition_7 : decode cL_condition 7 = .ok (.invokevirtual 21, 3) := by decide +kernel
theorem dL_condition_10 : decode cL_condition 10 = .ok (.i2l, 1) := by decide +kernel
theorem dL_condition_11 : decode cL_condition 11 = .ok (.lastore, 1) := by decide +kernel
theorem dL_condition_12 : decode cL_condition 12 = .ok (.goto 11, 3) := by decide +kernel
theorem dL_condition_15 : decode cL_condition 15 = .ok (.astore 5, 2) := by decide +kernel
theorem dL_condition_17 : decode cL_condition 17 = .ok (.iconst 1, 1) := by decide +kernel
theorem dL_condition_18 : decode cL_condition 18 = .ok (.ireturn, 1) := by decide +kernel
theorem dL_condition_19 : decode cL_condition 19 = .ok (.astore 5, 2) := by decide +kernel
theorem dL_condition_21 : decode cL_condition 21 = .ok (.iconst 2, 1) := by decide +kernel
theorem dL_condition_22 : decode cL_condition 22 = .ok (.ireturn, 1) := by decide +kernel
theorem dL_condition_23 : decode cL_condition 23 = .ok (.iconst 0, 1) := by decide +kernel
theorem dL_condition_24 : decode cL_condition 24 = .ok (.ireturn, 1) := by decide +kernel
theorem dL_set_0 : decode cL_set 0 = .ok (.aload 4, 2) := by decide +kernel
theorem dL_set_2 : decode cL_set 2 = .ok (.iconst 0, 1) := by decide +kernel
theorem dL_set_3 : decode cL_set 3 = .ok (.aload_n 0, 1) := by decide +kernel
theorem dL_set_4 : decode cL_set 4 = .ok (.iload_n 1, 1) := by decide +kernel
theorem dL_set_5 : decode cL_set 5 = .ok (.iload_n 2, 1) := by decide +kernel
theorem dL_set_6 : decode cL_set 6 = .ok (.iload_n 3, 1) := by decide +kernel
theorem dL_set_7 : decode cL_set 7 = .ok (.invokevirtual 24, 3) := by decide +kernel
theorem dL_set_10 : decode cL_set 10 = .ok (.i2l, 1) := by decide +kernel
theorem dL_set_11 : decode cL_set 11 = .ok (.lastore, 1) := by decide +kernel
theorem dL_set_12 : decode cL_set 12 = .ok (.goto 11, 3) := by decide +kernel
theorem dL_set_15 : decode cL_set 15 = .ok (.astore 5, 2) := by decide +kernel
theorem dL_set_17 : decode cL_set 17 = .ok (.iconst 1, 1) := by decide +kernel
theorem dL_set_18 : decode cL_set 18 = .ok (.ireturn, 1) := by decide +kernel
theorem dL_set_19 : decode cL_set 19 = .ok (.astore 5, 2) := by decide +kernel
theorem dL_set_21 : decode cL_set 21 = .ok (.iconst 2, 1) := by decide +kernel
theorem dL_set_22 : decode cL_set 22 = .ok (.ireturn, 1) := by decide +kernel
theorem dL_set_23 : decode cL_set 23 = .ok (.iconst 0, 1) := by decide +kernel
theorem dL_set_24 : decode cL_set 24 = .ok (.ireturn, 1) := by decide +kernel
theorem dL_drop_0 : decode cL_drop 0 = .ok (.aload 4, 2) := by decide +kernel
theorem dL_drop_2 : decode cL_drop 2 = .ok (.iconst 0, 1) := by decide +kernel
theorem dL_drop_3 : decode cL_drop 3 = .ok (.aload_n 0, 1) := by decide +kernel
theorem dL_drop_4 : decode cL_drop 4 = .ok (.iload_n 1, 1) := by decide +kernel
theorem dL_drop_5 : decode cL_drop 5 = .ok (.iload_n 2, 1) := by decide +kernel
theorem dL_drop_6 : decode cL_drop 6 = .ok (.iload_n 3, 1) := by decide +kernel
theorem dL_drop_7 : decode cL_drop 7 = .ok (.invokevirtual 27, 3) := by decide +kernel
theorem dL_drop_10 : decode cL_drop 10 = .ok (.ifCond .eq 7, 3) := by decide +kernel
theorem dL_drop_13 : decode cL_drop 13 = .ok (.lconst 1, 1) := by decide +kernel
theorem dL_drop_14 : decode cL_drop 14 = .ok (.goto 4, 3) := by decide +kernel
theorem dL_drop_17 : decode cL_drop 17 = .ok (.lconst 0, 1) := by decide +kernel
theorem dL_drop_18 : decode cL_drop 18 = .ok (.lastore, 1) := by decide +kernel
theorem dL_drop_19 : decode cL_drop 19 = .ok (.goto 11, 3) := by decide +kernel
theorem dL_drop_22 : decode cL_drop 22 = .ok (.astore 5, 2) := by decide +kernel
theorem dL_drop_24 : decode cL_drop 24 = .ok (.iconst 1, 1) := by decide +kernel
theorem dL_drop_25 : decode cL_drop 25 = .ok (.ireturn, 1) := by decide +kernel
theorem dL_drop_26 : decode cL_drop 26 = .ok (.astore 5, 2) := by decide +kernel
theorem dL_drop_28 : decode cL_drop 28 = .ok (.iconst 2, 1) := by decide +kernel
theorem dL_drop_29 : decode cL_drop 29 = .ok (.ireturn, 1) := by decide +kernel
theorem dL_drop_30 : decode cL_drop 30 = .ok (.iconst 0, 1) := by decide +kernel
theorem dL_drop_31 : decode cL_drop 31 = .ok (.ireturn, 1) := by decide +kernel
theorem dL_empty_0 : decode cL_empty 0 = .ok (.aload_n 2, 1) := by decide +kernel
theorem dL_empty_1 : decode cL_empty 1 = .ok (.iconst 0, 1) := by decide +kernel
theorem dL_empty_2 : decode cL_empty 2 = .ok (.aload_n 0, 1) := by decide +kernel
theorem dL_empty_3 : decode cL_empty 3 = .ok (.iload_n 1, 1) := by decide +kernel
theorem dL_empty_4 : decode cL_empty 4 = .ok (.invokevirtual 31, 3) := by decide +kernel
theorem dL_empty_7 : decode cL_empty 7 = .ok (.i2l, 1) := by decide +kernel
theorem dL_empty_8 : decode cL_empty 8 = .ok (.lastore, 1) := by decide +kernel
theorem dL_empty_9 : decode cL_empty 9 = .ok (.goto 9, 3) := by decide +kernel
theorem dL_empty_12 : decode cL_empty 12 = .ok (.astore_n 3, 1) := by decide +kernel
theorem dL_empty_13 : decode cL_empty 13 = .ok (.iconst 1, 1) := by decide +kernel
theorem dL_empty_14 : decode cL_empty 14 = .ok (.ireturn, 1) := by decide +kernel
theorem dL_empty_15 : decode cL_empty 15 = .ok (.astore_n 3, 1) := by decide +kernel
theorem dL_empty_16 : decode cL_empty 16 = .ok (.iconst 2, 1) := by decide +kernel
theorem dL_empty_17 : decode cL_empty 17 = .ok (.ireturn, 1) := by decide +kernel
theorem dL_empty_18 : decode cL_empty 18 = .ok (.iconst 0, 1) := by decide +kernel
theorem dL_empty_19 : decode cL_empty 19 = .ok (.ireturn, 1) := by decide +kernel
theorem dL_pushed_0 : decode cL_pushed 0 = .ok (.aload_n 3, 1) := by decide +kernel
theorem dL_pushed_1 : decode cL_pushed 1 = .ok (.iconst 0, 1) := by decide +kernel
theorem dL_pushed_2 : decode cL_pushed 2 = .ok (.aload_n 0, 1) := by decide +kernel
theorem dL_pushed_3 : decode cL_pushed 3 = .ok (.iload_n 1, 1) := by decide +kernel
theorem dL_pushed_4 : decode cL_pushed 4 = .ok (.iload_n 2, 1) := by decide +kernel
theorem dL_pushed_5 : decode cL_pushed 5 = .ok (.invokevirtual 35, 3) := by decide +kernel
theorem dL_pushed_8 : decode cL_pushed 8 = .ok (.i2l, 1) := by decide +kernel
theorem dL_pushed_9 : decode cL_pushed 9 = .ok (.lastore, 1) := by decide +kernel
theorem dL_pushed_10 : decode cL_pushed 10 = .ok (.goto 11, 3) := by decide +kernel
theorem dL_pushed_13 : decode cL_pushed 13 = .ok (.astore 4, 2) := by decide +kernel
theorem dL_pushed_15 : decode cL_pushed 15 = .ok (.iconst 1, 1) := by decide +kernel
theorem dL_pushed_16 : decode cL_pushed 16 = .ok (.ireturn, 1) := by decide +kernel
theorem dL_pushed_17 : decode cL_pushed 17 = .ok (.astore 4, 2) := by decide +kernel
theorem dL_pushed_19 : decode cL_pushed 19 = .ok (.iconst 2, 1) := by decide +kernel
theorem dL_pushed_20 : decode cL_pushed 20 = .ok (.ireturn, 1) := by decide +kernel
theorem dL_pushed_21 : decode cL_pushed 21 = .ok (.iconst 0, 1) := by decide +kernel
theorem dL_pushed_22 : decode cL_pushed 22 = .ok (.ireturn, 1) := by decide +kernel
theorem dL_has_0 : decode cL_has 0 = .ok (.aload 4, 2) := by decide +kernel
theorem dL_has_2 : decode cL_has 2 = .ok (.iconst 0, 1) := by decide +kernel
theorem dL_has_3 : decode cL_has 3 = .ok (.aload_n 0, 1) := by decide +kernel
theorem dL_has_4 : decode cL_has 4 = .ok (.iload_n 1, 1) := by decide +kernel
theorem dL_has_5 : decode cL_has 5 = .ok (.iload_n 2, 1) := by decide +kernel
theorem dL_has_6 : decode cL_has 6 = .ok (.iload_n 3, 1) := by decide +kernel
theorem dL_has_7 : decode cL_has 7 = .ok (.invokevirtual 40, 3) := by decide +kernel
theorem dL_has_10 : decode cL_has 10 = .ok (.ifCond .eq 7, 3) := by decide +kernel
theorem dL_has_13 : decode cL_has 13 = .ok (.lconst 1, 1) := by decide +kernel
theorem dL_has_14 : decode cL_has 14 = .ok (.goto 4, 3) := by decide +kernel
theorem dL_has_17 : decode cL_has 17 = .ok (.lconst 0, 1) := by decide +kernel
theorem dL_has_18 : decode cL_has 18 = .ok (.lastore, 1) := by decide +kernel
theorem dL_has_19 : decode cL_has 19 = .ok (.goto 7, 3) := by decide +kernel
theorem dL_has_22 : decode cL_has 22 = .ok (.astore 5, 2) := by decide +kernel
theorem dL_has_24 : decode cL_has 24 = .ok (.iconst 1, 1) := by decide +kernel
theorem dL_has_25 : decode cL_has 25 = .ok (.ireturn, 1) := by decide +kernel
theorem dL_has_26 : decode cL_has 26 = .ok (.iconst 0, 1) := by decide +kernel
theorem dL_has_27 : decode cL_has 27 = .ok (.ireturn, 1) := by decide +kernel
theorem dL_next_0 : decode cL_next 0 = .ok (.aload 4, 2) := by decide +kernel
theorem dL_next_2 : decode cL_next 2 = .ok (.iconst 0, 1) := by decide +kernel
theorem dL_next_3 : decode cL_next 3 = .ok (.aload_n 0, 1) := by decide +kernel
theorem dL_next_4 : decode cL_next 4 = .ok (.iload_n 1, 1) := by decide +kernel
theorem dL_next_5 : decode cL_next 5 = .ok (.iload_n 2, 1) := by decide +kernel
theorem dL_next_6 : decode cL_next 6 = .ok (.iload_n 3, 1) := by decide +kernel
theorem dL_next_7 : decode cL_next 7 = .ok (.invokevirtual 43, 3) := by decide +kernel
theorem dL_next_10 : decode cL_next 10 = .ok (.i2l, 1) := by decide +kernel
theorem dL_next_11 : decode cL_next 11 = .ok (.lastore, 1) := by decide +kernel
theorem dL_next_12 : decode cL_next 12 = .ok (.goto 11, 3) := by decide +kernel
theorem dL_next_15 : decode cL_next 15 = .ok (.astore 5, 2) := by decide +kernel
theorem dL_next_17 : decode cL_next 17 = .ok (.iconst 1, 1) := by decide +kernel
theorem dL_next_18 : decode cL_next 18 = .ok (.ireturn, 1) := by decide +kernel
theorem dL_next_19 : decode cL_next 19 = .ok (.astore 5, 2) := by decide +kernel
theorem dL_next_21 : decode cL_next 21 = .ok (.iconst 2, 1) := by decide +kernel
theorem dL_next_22 : decode cL_next 22 = .ok (.ireturn, 1) := by decide +kernel
theorem dL_next_23 : decode cL_next 23 = .ok (.iconst 0, 1) := by decide +kernel
theorem dL_next_24 : decode cL_next 24 = .ok (.ireturn, 1) := by decide +kernel
theorem dL_back_0 : decode cL_back 0 = .ok (.aload 4, 2) := by decide +kernel
theorem dL_back_2 : decode cL_back 2 = .ok (.iconst 0, 1) := by decide +kernel
theorem dL_back_3 : decode cL_back 3 = .ok (.aload_n 0, 1) := by decide +kernel
theorem dL_back_4 : decode cL_back 4 = .ok (.iload_n 1, 1) := by decide +kernel
theorem dL_back_5 : decode cL_back 5 = .ok (.iload_n 2, 1) := by decide +kernel
theorem dL_back_6 : decode cL_back 6 = .ok (.iload_n 3, 1) := by decide +kernel
theorem dL_back_7 : decode cL_back 7 = .ok (.invokevirtual 46, 3) := by decide +kernel
theorem dL_back_10 : decode cL_back 10 = .ok (.i2l, 1) := by decide +kernel
theorem dL_back_11 : decode cL_back 11 = .ok (.lastore, 1) := by decide +kernel
theorem dL_back_12 : decode cL_back 12 = .ok (.goto 11, 3) := by decide +kernel
theorem dL_back_15 : decode cL_back 15 = .ok (.astore 5, 2) := by decide +kernel
theorem dL_back_17 : decode cL_back 17 = .ok (.iconst 1, 1) := by decide +kernel
theorem dL_back_18 : decode cL_back 18 = .ok (.ireturn, 1) := by decide +kernel
theorem dL_back_19 : decode cL_back 19 = .ok (.astore 5, 2) := by decide +kernel
theorem dL_back_21 : decode cL_back 21 = .ok (.iconst 2, 1) := by decide +kernel
theorem dL_back_22 : decode cL_back 22 = .ok (.ireturn, 1) := by decide +kernel
theorem dL_back_23 : decode cL_back 23 = .ok (.iconst 0, 1) := by decide +kernel
theorem dL_back_24 : decode cL_back 24 = .ok (.ireturn, 1) := by decide +kernel
theorem dL_count_0 : decode cL_count 0 = .ok (.aload_n 2, 1) := by decide +kernel
theorem dL_count_1 : decode cL_count 1 = .ok (.iconst 0, 1) := by decide +kernel
theorem dL_count_2 : decode cL_count 2 = .ok (.aload_n 0, 1) := by decide +kernel
theorem dL_count_3 : decode cL_count 3 = .ok (.iload_n 1, 1) := by decide +kernel
theorem dL_count_4 : decode cL_count 4 = .ok (.invokevirtual 49, 3) := by decide +kernel
theorem dL_count_7 : decode cL_count 7 = .ok (.i2l, 1) := by decide +kernel
theorem dL_count_8 : decode cL_count 8 = .ok (.lastore, 1) := by decide +kernel
theorem dL_count_9 : decode cL_count 9 = .ok (.goto 6, 3) := by decide +kernel
theorem dL_count_12 : decode cL_count 12 = .ok (.astore_n 3, 1) := by decide +kernel
theorem dL_count_13 : decode cL_count 13 = .ok (.iconst 1, 1) := by decide +kernel
theorem dL_count_14 : decode cL_count 14 = .ok (.ireturn, 1) := by decide +kernel
theorem dL_count_15 : decode cL_count 15 = .ok (.iconst 0, 1) := by decide +kernel
theorem dL_count_16 : decode cL_count 16 = .ok (.ireturn, 1) := by decide +kernel
theorem dL_length_0 : decode cL_length 0 = .ok (.aload 4, 2) := by decide +kernel
theorem dL_length_2 : decode cL_length 2 = .ok (.iconst 0, 1) := by decide +kernel
theorem dL_length_3 : decode cL_length 3 = .ok (.aload_n 0, 1) := by decide +kernel
theorem dL_length_4 : decode cL_length 4 = .ok (.iload_n 1, 1) := by decide +kernel
theorem dL_length_5 : decode cL_length 5 = .ok (.iload_n 2, 1) := by decide +kernel
theorem dL_length_6 : decode cL_length 6 = .ok (.iload_n 3, 1) := by decide +kernel
theorem dL_length_7 : decode cL_length 7 = .ok (.invokevirtual 52, 3) := by decide +kernel
theorem dL_length_10 : decode cL_length 10 = .ok (.i2l, 1) := by decide +kernel
theorem dL_length_11 : decode cL_length 11 = .ok (.lastore, 1) := by decide +kernel
theorem dL_length_12 : decode cL_length 12 = .ok (.goto 7, 3) := by decide +kernel
theorem dL_length_15 : decode cL_length 15 = .ok (.astore 5, 2) := by decide +kernel
theorem dL_length_17 : decode cL_length 17 = .ok (.iconst 1, 1) := by decide +kernel
theorem dL_length_18 : decode cL_length 18 = .ok (.ireturn, 1) := by decide +kernel
theorem dL_length_19 : decode cL_length 19 = .ok (.iconst 0, 1) := by decide +kernel
theorem dL_length_20 : decode cL_length 20 = .ok (.ireturn, 1) := by decide +kernel
theorem dL_route_0 : decode cL_route 0 = .ok (.aload 5, 2) := by decide +kernel
theorem dL_route_2 : decode cL_route 2 = .ok (.iconst 0, 1) := by decide +kernel
theorem dL_route_3 : decode cL_route 3 = .ok (.aload_n 0, 1) := by decide +kernel
theorem dL_route_4 : decode cL_route 4 = .ok (.iload_n 1, 1) := by decide +kernel
theorem dL_route_5 : decode cL_route 5 = .ok (.iload_n 2, 1) := by decide +kernel
theorem dL_route_6 : decode cL_route 6 = .ok (.iload_n 3, 1) := by decide +kernel
theorem dL_route_7 : decode cL_route 7 = .ok (.iload 4, 2) := by decide +kernel
theorem dL_route_9 : decode cL_route 9 = .ok (.invokevirtual 55, 3) := by decide +kernel
theorem dL_route_12 : decode cL_route 12 = .ok (.i2l, 1) := by decide +kernel
theorem dL_route_13 : decode cL_route 13 = .ok (.lastore, 1) := by decide +kernel
theorem dL_route_14 : decode cL_route 14 = .ok (.goto 11, 3) := by decide +kernel
theorem dL_route_17 : decode cL_route 17 = .ok (.astore 6, 2) := by decide +kernel
theorem dL_route_19 : decode cL_route 19 = .ok (.iconst 1, 1) := by decide +kernel
theorem dL_route_20 : decode cL_route 20 = .ok (.ireturn, 1) := by decide +kernel
theorem dL_route_21 : decode cL_route 21 = .ok (.astore 6, 2) := by decide +kernel
theorem dL_route_23 : decode cL_route 23 = .ok (.iconst 2, 1) := by decide +kernel
theorem dL_route_24 : decode cL_route 24 = .ok (.ireturn, 1) := by decide +kernel
theorem dL_route_25 : decode cL_route 25 = .ok (.iconst 0, 1) := by decide +kernel
theorem dL_route_26 : decode cL_route 26 = .ok (.ireturn, 1) := by decide +kernel
theorem dL_leader_0 : decode cL_leader 0 = .ok (.aload_n 3, 1) := by decide +kernel
theorem dL_leader_1 : decode cL_leader 1 = .ok (.iconst 0, 1) := by decide +kernel
theorem dL_leader_2 : decode cL_leader 2 = .ok (.aload_n 0, 1) := by decide +kernel
theorem dL_leader_3 : decode cL_leader 3 = .ok (.iload_n 1, 1) := by decide +kernel
theorem dL_leader_4 : decode cL_leader 4 = .ok (.iload_n 2, 1) := by decide +kernel
theorem dL_leader_5 : decode cL_leader 5 = .ok (.invokevirtual 59, 3) := by decide +kernel
theorem dL_leader_8 : decode cL_leader 8 = .ok (.i2l, 1) := by decide +kernel
theorem dL_leader_9 : decode cL_leader 9 = .ok (.lastore, 1) := by decide +kernel
theorem dL_leader_10 : decode cL_leader 10 = .ok (.goto 11, 3) := by decide +kernel
theorem dL_leader_13 : decode cL_leader 13 = .ok (.astore 4, 2) := by decide +kernel
theorem dL_leader_15 : decode cL_leader 15 = .ok (.iconst 1, 1) := by decide +kernel
theorem dL_leader_16 : decode cL_leader 16 = .ok (.ireturn, 1) := by decide +kernel
theorem dL_leader_17 : decode cL_leader 17 = .ok (.astore 4, 2) := by decide +kernel
theorem dL_leader_19 : decode cL_leader 19 = .ok (.iconst 2, 1) := by decide +kernel
theorem dL_leader_20 : decode cL_leader 20 = .ok (.ireturn, 1) := by decide +kernel
theorem dL_leader_21 : decode cL_leader 21 = .ok (.iconst 0, 1) := by decide +kernel
theorem dL_leader_22 : decode cL_leader 22 = .ok (.ireturn, 1) := by decide +kernel
theorem dL_differ_0 : decode cL_differ 0 = .ok (.aload_n 3, 1) := by decide +kernel
theorem dL_differ_1 : decode cL_differ 1 = .ok (.iconst 0, 1) := by decide +kernel
theorem dL_differ_2 : decode cL_differ 2 = .ok (.aload_n 0, 1) := by decide +kernel
theorem dL_differ_3 : decode cL_differ 3 = .ok (.iload_n 1, 1) := by decide +kernel
theorem dL_differ_4 : decode cL_differ 4 = .ok (.iload_n 2, 1) := by decide +kernel
theorem dL_differ_5 : decode cL_differ 5 = .ok (.invokevirtual 62, 3) := by decide +kernel
theorem dL_differ_8 : decode cL_differ 8 = .ok (.i2l, 1) := by decide +kernel
theorem dL_differ_9 : decode cL_differ 9 = .ok (.lastore, 1) := by decide +kernel
theorem dL_differ_10 : decode cL_differ 10 = .ok (.goto 7, 3) := by decide +kernel
theorem dL_differ_13 : decode cL_differ 13 = .ok (.astore 4, 2) := by decide +kernel
theorem dL_differ_15 : decode cL_differ 15 = .ok (.iconst 1, 1) := by decide +kernel
theorem dL_differ_16 : decode cL_differ 16 = .ok (.ireturn, 1) := by decide +kernel
theorem dL_differ_17 : decode cL_differ 17 = .ok (.iconst 0, 1) := by decide +kernel
theorem dL_differ_18 : decode cL_differ 18 = .ok (.ireturn, 1) := by decide +kernel
theorem dL_tally_0 : decode cL_tally 0 = .ok (.aload_n 3, 1) := by decide +kernel
theorem dL_tally_1 : decode cL_tally 1 = .ok (.iconst 0, 1) := by decide +kernel
theorem dL_tally_2 : decode cL_tally 2 = .ok (.aload_n 0, 1) := by decide +kernel
theorem dL_tally_3 : decode cL_tally 3 = .ok (.iload_n 1, 1) := by decide +kernel
theorem dL_tally_4 : decode cL_tally 4 = .ok (.iload_n 2, 1) := by decide +kernel
theorem dL_tally_5 : decode cL_tally 5 = .ok (.invokevirtual 65, 3) := by decide +kernel
theorem dL_tally_8 : decode cL_tally 8 = .ok (.i2l, 1) := by decide +kernel
theorem dL_tally_9 : decode cL_tally 9 = .ok (.lastore, 1) := by decide +kernel
theorem dL_tally_10 : decode cL_tally 10 = .ok (.goto 7, 3) := by decide +kernel
theorem dL_tally_13 : decode cL_tally 13 = .ok (.astore 4, 2) := by decide +kernel
theorem dL_tally_15 : decode cL_tally 15 = .ok (.iconst 1, 1) := by decide +kernel
theorem dL_tally_16 : decode cL_tally 16 = .ok (.ireturn, 1) := by decide +kernel
theorem dL_tally_17 : decode cL_tally 17 = .ok (.iconst 0, 1) := by decide +kernel
theorem dL_tally_18 : decode cL_tally 18 = .ok (.ireturn, 1) := by decide +kernel
theorem dL_of_0 : decode cL_of 0 = .ok (.aload_n 2, 1) := by decide +kernel
theorem dL_of_1 : decode cL_of 1 = .ok (.iconst 0, 1) := by decide +kernel
theorem dL_of_2 : decode cL_of 2 = .ok (.aload_n 0, 1) := by decide +kernel
theorem dL_of_3 : decode cL_of 3 = .ok (.iload_n 1, 1) := by decide +kernel
theorem dL_of_4 : decode cL_of 4 = .ok (.invokevirtual 70, 3) := by decide +kernel
theorem dL_of_7 : decode cL_of 7 = .ok (.i2l, 1) := by decide +kernel
theorem dL_of_8 : decode cL_of 8 = .ok (.lastore, 1) := by decide +kernel
theorem dL_of_9 : decode cL_of 9 = .ok (.goto 6, 3) := by decide +kernel
theorem dL_of_12 : decode cL_of 12 = .ok (.astore_n 3, 1) := by decide +kernel
theorem dL_of_13 : decode cL_of 13 = .ok (.iconst 1, 1) := by decide +kernel
theorem dL_of_14 : decode cL_of 14 = .ok (.ireturn, 1) := by decide +kernel
theorem dL_of_15 : decode cL_of 15 = .ok (.iconst 0, 1) := by decide +kernel
theorem dL_of_16 : decode cL_of 16 = .ok (.ireturn, 1) := by decide +kernel
theorem dL_told_0 : decode cL_told 0 = .ok (.aload_n 3, 1) := by decide +kernel
theorem dL_told_1 : decode cL_told 1 = .ok (.iconst 0, 1) := by decide +kernel
theorem dL_told_2 : decode cL_told 2 = .ok (.aload_n 0, 1) := by decide +kernel
theorem dL_told_3 : decode cL_told 3 = .ok (.iload_n 1, 1) := by decide +kernel
theorem dL_told_4 : decode cL_told 4 = .ok (.iload_n 2, 1) := by decide +kernel
theorem dL_told_5 : decode cL_told 5 = .ok (.invokevirtual 73, 3) := by decide +kernel
theorem dL_told_8 : decode cL_told 8 = .ok (.i2l, 1) := by decide +kernel
theorem dL_told_9 : decode cL_told 9 = .ok (.lastore, 1) := by decide +kernel
theorem dL_told_10 : decode cL_told 10 = .ok (.goto 7, 3) := by decide +kernel
theorem dL_told_13 : decode cL_told 13 = .ok (.astore 4, 2) := by decide +kernel
theorem dL_told_15 : decode cL_told 15 = .ok (.iconst 1, 1) := by decide +kernel
theorem dL_told_16 : decode cL_told 16 = .ok (.ireturn, 1) := by decide +kernel
theorem dL_told_17 : decode cL_told 17 = .ok (.iconst 0, 1) := by decide +kernel
theorem dL_told_18 : decode cL_told 18 = .ok (.ireturn, 1) := by decide +kernel
end
section
/-- every good word of the tables: the words of every method here -/
def WA : List Cond := lw_tbl.filter goodWord
theorem wa_of {w : Cond} (h : (decide (w ∈ lw_tbl) && goodWord w) = true) : w ∈ WA := by
  rw [Bool.and_eq_true, decide_eq_true_eq] at h
  exact List.mem_filter.mpr h
theorem wa_good {w : Cond} (h : w ∈ WA) : goodWord w = true := (List.mem_filter.mp h).2
theorem wa_tbl {w : Cond} (h : w ∈ WA) : w ∈ lw_tbl := (List.mem_filter.mp h).1
def wg_0 : List Cond := [.code yX0_init cX0_init 3 none, .methodLink RX0 1 objectInit, .instanceMethod objectInit, .code objectInit ⟨#[0xb1]⟩ 1 none, .methodLink RX0 9 Lib.Math.min.name, .static Lib.Math.min.name, .initialized "java/lang/Math", .code Lib.Math.min.name Lib.Math.min.code 2 (some .int), .methodLink RX0 15 Lib.Math.max.name, .static Lib.Math.max.name, .code Lib.Math.max.name Lib.Math.max.code 2 (some .int), .fieldLink RX0 18 "RelationRows" "things" "I", .fieldLink RX0 22 "RelationRows" "allThings" "J", .arrayClass .int, .fieldLink RX0 26 "RelationRows" "kinds" "[I", .fieldLink RX0 30 "RelationRows" "tallies" "[I", .fieldLink RX0 33 "RelationRows" "forms" "[I", .fieldLink RX0 36 "RelationRows" "firsts" "[I", .fieldLink RX0 39 "RelationRows" "seconds" "[I", .classLink RX0 42 "[[J", .arrayClass .long, .fieldLink RX0 44 "RelationRows" "rows" "[[J", .fieldLink RX0 47 "RelationRows" "pushedFirsts" "[I", .fieldLink RX0 50 "RelationRows" "pushedSeconds" "[I", .fieldLink RX0 53 "RelationRows" "steps" "[I", .code yJ7_fill_53178 cJ7_fill_53178 4 none, .code yX0_clear cX0_clear 2 (some .int), .fieldLink RX0 56 "RelationRows" "relations" "I", .fieldLink RX0 59 "RelationRows" "settled" "I", .fieldLink RX0 62 "RelationRows" "pushedCount" "I", .methodLink RX0 65 yJ7_fill_53178, .static yJ7_fill_53178, .initialized RJ7, .code yX0_isThing cX0_isThing 2 (some .boolean), .code yX0_needThing cX0_needThing 2 none, .classLink RX0 75 "java/lang/IllegalArgumentException", .initialized "java/lang/IllegalArgumentException", .methodLink RX0 183 yX0_isThing, .instanceMethod yX0_isThing, .selects RX0 yX0_isThing yX0_isThing]
set_option maxRecDepth 100000 in
theorem wg_0_ok : wg_0.all (fun w => decide (w ∈ lw_tbl) && goodWord w) = true := by decide +kernel
theorem w_0 : (.code yX0_init cX0_init 3 none : Cond) ∈ WA := wa_of (List.all_eq_true.mp wg_0_ok _ (List.mem_of_getElem? (i := 0) rfl))
theorem w_1 : (.methodLink RX0 1 objectInit : Cond) ∈ WA := wa_of (List.all_eq_true.mp wg_0_ok _ (List.mem_of_getElem? (i := 1) rfl))
theorem w_2 : (.instanceMethod objectInit : Cond) ∈ WA := wa_of (List.all_eq_true.mp wg_0_ok _ (List.mem_of_getElem? (i := 2) rfl))
theorem w_3 : (.code objectInit ⟨#[0xb1]⟩ 1 none : Cond) ∈ WA := wa_of (List.all_eq_true.mp wg_0_ok _ (List.mem_of_getElem? (i := 3) rfl))
theorem w_4 : (.methodLink RX0 9 Lib.Math.min.name : Cond) ∈ WA := wa_of (List.all_eq_true.mp wg_0_ok _ (List.mem_of_getElem? (i := 4) rfl))
theorem w_5 : (.static Lib.Math.min.name : Cond) ∈ WA := wa_of (List.all_eq_true.mp wg_0_ok _ (List.mem_of_getElem? (i := 5) rfl))
theorem w_6 : (.initialized "java/lang/Math" : Cond) ∈ WA := wa_of (List.all_eq_true.mp wg_0_ok _ (List.mem_of_getElem? (i := 6) rfl))
theorem w_7 : (.code Lib.Math.min.name Lib.Math.min.code 2 (some .int) : Cond) ∈ WA := wa_of (List.all_eq_true.mp wg_0_ok _ (List.mem_of_getElem? (i := 7) rfl))
theorem w_8 : (.methodLink RX0 15 Lib.Math.max.name : Cond) ∈ WA := wa_of (List.all_eq_true.mp wg_0_ok _ (List.mem_of_getElem? (i := 8) rfl))
theorem w_9 : (.static Lib.Math.max.name : Cond) ∈ WA := wa_of (List.all_eq_true.mp wg_0_ok _ (List.mem_of_getElem? (i := 9) rfl))
theorem w_10 : (.code Lib.Math.max.name Lib.Math.max.code 2 (some .int) : Cond) ∈ WA := wa_of (List.all_eq_true.mp wg_0_ok _ (List.mem_of_getElem? (i := 10) rfl))
theorem w_11 : (.fieldLink RX0 18 "RelationRows" "things" "I" : Cond) ∈ WA := wa_of (List.all_eq_true.mp wg_0_ok _ (List.mem_of_getElem? (i := 11) rfl))
theorem w_12 : (.fieldLink RX0 22 "RelationRows" "allThings" "J" : Cond) ∈ WA := wa_of (List.all_eq_true.mp wg_0_ok _ (List.mem_of_getElem? (i := 12) rfl))
theorem w_13 : (.arrayClass .int : Cond) ∈ WA := wa_of (List.all_eq_true.mp wg_0_ok _ (List.mem_of_getElem? (i := 13) rfl))
theorem w_14 : (.fieldLink RX0 26 "RelationRows" "kinds" "[I" : Cond) ∈ WA := wa_of (List.all_eq_true.mp wg_0_ok _ (List.mem_of_getElem? (i := 14) rfl))
theorem w_15 : (.fieldLink RX0 30 "RelationRows" "tallies" "[I" : Cond) ∈ WA := wa_of (List.all_eq_true.mp wg_0_ok _ (List.mem_of_getElem? (i := 15) rfl))
theorem w_16 : (.fieldLink RX0 33 "RelationRows" "forms" "[I" : Cond) ∈ WA := wa_of (List.all_eq_true.mp wg_0_ok _ (List.mem_of_getElem? (i := 16) rfl))
theorem w_17 : (.fieldLink RX0 36 "RelationRows" "firsts" "[I" : Cond) ∈ WA := wa_of (List.all_eq_true.mp wg_0_ok _ (List.mem_of_getElem? (i := 17) rfl))
theorem w_18 : (.fieldLink RX0 39 "RelationRows" "seconds" "[I" : Cond) ∈ WA := wa_of (List.all_eq_true.mp wg_0_ok _ (List.mem_of_getElem? (i := 18) rfl))
theorem w_19 : (.classLink RX0 42 "[[J" : Cond) ∈ WA := wa_of (List.all_eq_true.mp wg_0_ok _ (List.mem_of_getElem? (i := 19) rfl))
theorem w_20 : (.arrayClass .long : Cond) ∈ WA := wa_of (List.all_eq_true.mp wg_0_ok _ (List.mem_of_getElem? (i := 20) rfl))
theorem w_21 : (.fieldLink RX0 44 "RelationRows" "rows" "[[J" : Cond) ∈ WA := wa_of (List.all_eq_true.mp wg_0_ok _ (List.mem_of_getElem? (i := 21) rfl))
theorem w_22 : (.fieldLink RX0 47 "RelationRows" "pushedFirsts" "[I" : Cond) ∈ WA := wa_of (List.all_eq_true.mp wg_0_ok _ (List.mem_of_getElem? (i := 22) rfl))
theorem w_23 : (.fieldLink RX0 50 "RelationRows" "pushedSeconds" "[I" : Cond) ∈ WA := wa_of (List.all_eq_true.mp wg_0_ok _ (List.mem_of_getElem? (i := 23) rfl))
theorem w_24 : (.fieldLink RX0 53 "RelationRows" "steps" "[I" : Cond) ∈ WA := wa_of (List.all_eq_true.mp wg_0_ok _ (List.mem_of_getElem? (i := 24) rfl))
theorem w_25 : (.code yJ7_fill_53178 cJ7_fill_53178 4 none : Cond) ∈ WA := wa_of (List.all_eq_true.mp wg_0_ok _ (List.mem_of_getElem? (i := 25) rfl))
theorem w_26 : (.code yX0_clear cX0_clear 2 (some .int) : Cond) ∈ WA := wa_of (List.all_eq_true.mp wg_0_ok _ (List.mem_of_getElem? (i := 26) rfl))
theorem w_27 : (.fieldLink RX0 56 "RelationRows" "relations" "I" : Cond) ∈ WA := wa_of (List.all_eq_true.mp wg_0_ok _ (List.mem_of_getElem? (i := 27) rfl))
theorem w_28 : (.fieldLink RX0 59 "RelationRows" "settled" "I" : Cond) ∈ WA := wa_of (List.all_eq_true.mp wg_0_ok _ (List.mem_of_getElem? (i := 28) rfl))
theorem w_29 : (.fieldLink RX0 62 "RelationRows" "pushedCount" "I" : Cond) ∈ WA := wa_of (List.all_eq_true.mp wg_0_ok _ (List.mem_of_getElem? (i := 29) rfl))
theorem w_30 : (.methodLink RX0 65 yJ7_fill_53178 : Cond) ∈ WA := wa_of (List.all_eq_true.mp wg_0_ok _ (List.mem_of_getElem? (i := 30) rfl))
theorem w_31 : (.static yJ7_fill_53178 : Cond) ∈ WA := wa_of (List.all_eq_true.mp wg_0_ok _ (List.mem_of_getElem? (i := 31) rfl))
theorem w_32 : (.initialized RJ7 : Cond) ∈ WA := wa_of (List.all_eq_true.mp wg_0_ok _ (List.mem_of_getElem? (i := 32) rfl))
theorem w_33 : (.code yX0_isThing cX0_isThing 2 (some .boolean) : Cond) ∈ WA := wa_of (List.all_eq_true.mp wg_0_ok _ (List.mem_of_getElem? (i := 33) rfl))
theorem w_34 : (.code yX0_needThing cX0_needThing 2 none : Cond) ∈ WA := wa_of (List.all_eq_true.mp wg_0_ok _ (List.mem_of_getElem? (i := 34) rfl))
theorem w_35 : (.classLink RX0 75 "java/lang/IllegalArgumentException" : Cond) ∈ WA := wa_of (List.all_eq_true.mp wg_0_ok _ (List.mem_of_getElem? (i := 35) rfl))
theorem w_36 : (.initialized "java/lang/IllegalArgumentException" : Cond) ∈ WA := wa_of (List.all_eq_true.mp wg_0_ok _ (List.mem_of_getElem? (i := 36) rfl))
theorem w_37 : (.methodLink RX0 183 yX0_isThing : Cond) ∈ WA := wa_of (List.all_eq_true.mp wg_0_ok _ (List.mem_of_getElem? (i := 37) rfl))
theorem w_38 : (.instanceMethod yX0_isThing : Cond) ∈ WA := wa_of (List.all_eq_true.mp wg_0_ok _ (List.mem_of_getElem? (i := 38) rfl))
theorem w_39 : (.selects RX0 yX0_isThing yX0_isThing : Cond) ∈ WA := wa_of (List.all_eq_true.mp wg_0_ok _ (List.mem_of_getElem? (i := 39) rfl))
def wg_1 : List Cond := [.initialized RX0, .code yX0_kind cX0_kind 4 (some .int), .classLink RX0 82 "java/lang/IllegalStateException", .initialized "java/lang/IllegalStateException", .methodLink RX0 71 yX0_needThing, .instanceMethod yX0_needThing, .selects RX0 yX0_needThing yX0_needThing, .code yX0_needKindOrNone cX0_needKindOrNone 2 none, .code yX0_needRoomForRelation cX0_needRoomForRelation 1 none, .code yX0_addRelation cX0_addRelation 5 (some .int), .code yX0_isOfKind cX0_isOfKind 3 (some .boolean), .code yX0_bit cX0_bit 1 (some .long), .code yX0_startRows cX0_startRows 4 none, .methodLink RX0 171 yX0_isOfKind, .instanceMethod yX0_isOfKind, .selects RX0 yX0_isOfKind yX0_isOfKind, .methodLink RX0 206 yX0_bit, .static yX0_bit, .methodLink RX0 89 yX0_needKindOrNone, .instanceMethod yX0_needKindOrNone, .selects RX0 yX0_needKindOrNone yX0_needKindOrNone, .methodLink RX0 94 yX0_needRoomForRelation, .instanceMethod yX0_needRoomForRelation, .selects RX0 yX0_needRoomForRelation yX0_needRoomForRelation, .methodLink RX0 97 yX0_addRelation, .instanceMethod yX0_addRelation, .selects RX0 yX0_addRelation yX0_addRelation, .methodLink RX0 101 yX0_startRows, .instanceMethod yX0_startRows, .selects RX0 yX0_startRows yX0_startRows, .code yX0_relation cX0_relation 5 (some .int), .code yX0_needRelation cX0_needRelation 2 none, .code yX0_takesTwo cX0_takesTwo 1 (some .boolean), .code yX0_condition cX0_condition 4 (some .int), .methodLink RX0 106 yX0_needRelation, .instanceMethod yX0_needRelation, .selects RX0 yX0_needRelation yX0_needRelation, .methodLink RX0 109 yX0_takesTwo, .static yX0_takesTwo, .code yX0_isByCondition cX0_isByCondition 2 (some .boolean)]
set_option maxRecDepth 100000 in
theorem wg_1_ok : wg_1.all (fun w => decide (w ∈ lw_tbl) && goodWord w) = true := by decide +kernel
theorem w_40 : (.initialized RX0 : Cond) ∈ WA := wa_of (List.all_eq_true.mp wg_1_ok _ (List.mem_of_getElem? (i := 0) rfl))
theorem w_41 : (.code yX0_kind cX0_kind 4 (some .int) : Cond) ∈ WA := wa_of (List.all_eq_true.mp wg_1_ok _ (List.mem_of_getElem? (i := 1) rfl))
theorem w_42 : (.classLink RX0 82 "java/lang/IllegalStateException" : Cond) ∈ WA := wa_of (List.all_eq_true.mp wg_1_ok _ (List.mem_of_getElem? (i := 2) rfl))
theorem w_43 : (.initialized "java/lang/IllegalStateException" : Cond) ∈ WA := wa_of (List.all_eq_true.mp wg_1_ok _ (List.mem_of_getElem? (i := 3) rfl))
theorem w_44 : (.methodLink RX0 71 yX0_needThing : Cond) ∈ WA := wa_of (List.all_eq_true.mp wg_1_ok _ (List.mem_of_getElem? (i := 4) rfl))
theorem w_45 : (.instanceMethod yX0_needThing : Cond) ∈ WA := wa_of (List.all_eq_true.mp wg_1_ok _ (List.mem_of_getElem? (i := 5) rfl))
theorem w_46 : (.selects RX0 yX0_needThing yX0_needThing : Cond) ∈ WA := wa_of (List.all_eq_true.mp wg_1_ok _ (List.mem_of_getElem? (i := 6) rfl))
theorem w_47 : (.code yX0_needKindOrNone cX0_needKindOrNone 2 none : Cond) ∈ WA := wa_of (List.all_eq_true.mp wg_1_ok _ (List.mem_of_getElem? (i := 7) rfl))
theorem w_48 : (.code yX0_needRoomForRelation cX0_needRoomForRelation 1 none : Cond) ∈ WA := wa_of (List.all_eq_true.mp wg_1_ok _ (List.mem_of_getElem? (i := 8) rfl))
theorem w_49 : (.code yX0_addRelation cX0_addRelation 5 (some .int) : Cond) ∈ WA := wa_of (List.all_eq_true.mp wg_1_ok _ (List.mem_of_getElem? (i := 9) rfl))
theorem w_50 : (.code yX0_isOfKind cX0_isOfKind 3 (some .boolean) : Cond) ∈ WA := wa_of (List.all_eq_true.mp wg_1_ok _ (List.mem_of_getElem? (i := 10) rfl))
theorem w_51 : (.code yX0_bit cX0_bit 1 (some .long) : Cond) ∈ WA := wa_of (List.all_eq_true.mp wg_1_ok _ (List.mem_of_getElem? (i := 11) rfl))
theorem w_52 : (.code yX0_startRows cX0_startRows 4 none : Cond) ∈ WA := wa_of (List.all_eq_true.mp wg_1_ok _ (List.mem_of_getElem? (i := 12) rfl))
theorem w_53 : (.methodLink RX0 171 yX0_isOfKind : Cond) ∈ WA := wa_of (List.all_eq_true.mp wg_1_ok _ (List.mem_of_getElem? (i := 13) rfl))
theorem w_54 : (.instanceMethod yX0_isOfKind : Cond) ∈ WA := wa_of (List.all_eq_true.mp wg_1_ok _ (List.mem_of_getElem? (i := 14) rfl))
theorem w_55 : (.selects RX0 yX0_isOfKind yX0_isOfKind : Cond) ∈ WA := wa_of (List.all_eq_true.mp wg_1_ok _ (List.mem_of_getElem? (i := 15) rfl))
theorem w_56 : (.methodLink RX0 206 yX0_bit : Cond) ∈ WA := wa_of (List.all_eq_true.mp wg_1_ok _ (List.mem_of_getElem? (i := 16) rfl))
theorem w_57 : (.static yX0_bit : Cond) ∈ WA := wa_of (List.all_eq_true.mp wg_1_ok _ (List.mem_of_getElem? (i := 17) rfl))
theorem w_58 : (.methodLink RX0 89 yX0_needKindOrNone : Cond) ∈ WA := wa_of (List.all_eq_true.mp wg_1_ok _ (List.mem_of_getElem? (i := 18) rfl))
theorem w_59 : (.instanceMethod yX0_needKindOrNone : Cond) ∈ WA := wa_of (List.all_eq_true.mp wg_1_ok _ (List.mem_of_getElem? (i := 19) rfl))
theorem w_60 : (.selects RX0 yX0_needKindOrNone yX0_needKindOrNone : Cond) ∈ WA := wa_of (List.all_eq_true.mp wg_1_ok _ (List.mem_of_getElem? (i := 20) rfl))
theorem w_61 : (.methodLink RX0 94 yX0_needRoomForRelation : Cond) ∈ WA := wa_of (List.all_eq_true.mp wg_1_ok _ (List.mem_of_getElem? (i := 21) rfl))
theorem w_62 : (.instanceMethod yX0_needRoomForRelation : Cond) ∈ WA := wa_of (List.all_eq_true.mp wg_1_ok _ (List.mem_of_getElem? (i := 22) rfl))
theorem w_63 : (.selects RX0 yX0_needRoomForRelation yX0_needRoomForRelation : Cond) ∈ WA := wa_of (List.all_eq_true.mp wg_1_ok _ (List.mem_of_getElem? (i := 23) rfl))
theorem w_64 : (.methodLink RX0 97 yX0_addRelation : Cond) ∈ WA := wa_of (List.all_eq_true.mp wg_1_ok _ (List.mem_of_getElem? (i := 24) rfl))
theorem w_65 : (.instanceMethod yX0_addRelation : Cond) ∈ WA := wa_of (List.all_eq_true.mp wg_1_ok _ (List.mem_of_getElem? (i := 25) rfl))
theorem w_66 : (.selects RX0 yX0_addRelation yX0_addRelation : Cond) ∈ WA := wa_of (List.all_eq_true.mp wg_1_ok _ (List.mem_of_getElem? (i := 26) rfl))
theorem w_67 : (.methodLink RX0 101 yX0_startRows : Cond) ∈ WA := wa_of (List.all_eq_true.mp wg_1_ok _ (List.mem_of_getElem? (i := 27) rfl))
theorem w_68 : (.instanceMethod yX0_startRows : Cond) ∈ WA := wa_of (List.all_eq_true.mp wg_1_ok _ (List.mem_of_getElem? (i := 28) rfl))
theorem w_69 : (.selects RX0 yX0_startRows yX0_startRows : Cond) ∈ WA := wa_of (List.all_eq_true.mp wg_1_ok _ (List.mem_of_getElem? (i := 29) rfl))
theorem w_70 : (.code yX0_relation cX0_relation 5 (some .int) : Cond) ∈ WA := wa_of (List.all_eq_true.mp wg_1_ok _ (List.mem_of_getElem? (i := 30) rfl))
theorem w_71 : (.code yX0_needRelation cX0_needRelation 2 none : Cond) ∈ WA := wa_of (List.all_eq_true.mp wg_1_ok _ (List.mem_of_getElem? (i := 31) rfl))
theorem w_72 : (.code yX0_takesTwo cX0_takesTwo 1 (some .boolean) : Cond) ∈ WA := wa_of (List.all_eq_true.mp wg_1_ok _ (List.mem_of_getElem? (i := 32) rfl))
theorem w_73 : (.code yX0_condition cX0_condition 4 (some .int) : Cond) ∈ WA := wa_of (List.all_eq_true.mp wg_1_ok _ (List.mem_of_getElem? (i := 33) rfl))
theorem w_74 : (.methodLink RX0 106 yX0_needRelation : Cond) ∈ WA := wa_of (List.all_eq_true.mp wg_1_ok _ (List.mem_of_getElem? (i := 34) rfl))
theorem w_75 : (.instanceMethod yX0_needRelation : Cond) ∈ WA := wa_of (List.all_eq_true.mp wg_1_ok _ (List.mem_of_getElem? (i := 35) rfl))
theorem w_76 : (.selects RX0 yX0_needRelation yX0_needRelation : Cond) ∈ WA := wa_of (List.all_eq_true.mp wg_1_ok _ (List.mem_of_getElem? (i := 36) rfl))
theorem w_77 : (.methodLink RX0 109 yX0_takesTwo : Cond) ∈ WA := wa_of (List.all_eq_true.mp wg_1_ok _ (List.mem_of_getElem? (i := 37) rfl))
theorem w_78 : (.static yX0_takesTwo : Cond) ∈ WA := wa_of (List.all_eq_true.mp wg_1_ok _ (List.mem_of_getElem? (i := 38) rfl))
theorem w_79 : (.code yX0_isByCondition cX0_isByCondition 2 (some .boolean) : Cond) ∈ WA := wa_of (List.all_eq_true.mp wg_1_ok _ (List.mem_of_getElem? (i := 39) rfl))
def wg_2 : List Cond := [.code yX0_needForm cX0_needForm 2 none, .methodLink RX0 197 yX0_isByCondition, .instanceMethod yX0_isByCondition, .selects RX0 yX0_isByCondition yX0_isByCondition, .methodLink RX0 135 yX0_needForm, .instanceMethod yX0_needForm, .selects RX0 yX0_needForm yX0_needForm, .code yX0_needSettable cX0_needSettable 4 none, .code yX0_holds cX0_holds 4 (some .boolean), .code yX0_makeClass cX0_makeClass 5 none, .code yX0_goesBothWays cX0_goesBothWays 2 (some .boolean), .code yX0_part cX0_part 4 none, .constantLong RX0 231 (-1), .methodLink RX0 224 yX0_makeClass, .instanceMethod yX0_makeClass, .selects RX0 yX0_makeClass yX0_makeClass, .methodLink RX0 228 yX0_goesBothWays, .instanceMethod yX0_goesBothWays, .selects RX0 yX0_goesBothWays yX0_goesBothWays, .code yX0_pushPair cX0_pushPair 4 none, .methodLink RX0 132 yX0_part, .instanceMethod yX0_part, .selects RX0 yX0_part yX0_part, .methodLink RX0 119 yX0_holds, .instanceMethod yX0_holds, .selects RX0 yX0_holds yX0_holds, .methodLink RX0 221 yX0_pushPair, .instanceMethod yX0_pushPair, .selects RX0 yX0_pushPair yX0_pushPair, .code yX0_pushRow cX0_pushRow 4 none, .code yX0_pushColumn cX0_pushColumn 4 none, .methodLink RX0 215 yX0_pushRow, .instanceMethod yX0_pushRow, .selects RX0 yX0_pushRow yX0_pushRow, .methodLink RX0 218 yX0_pushColumn, .instanceMethod yX0_pushColumn, .selects RX0 yX0_pushColumn yX0_pushColumn, .code yX0_pushOut cX0_pushOut 4 none, .code yX0_join cX0_join 4 none, .code yX0_makeStale cX0_makeStale 2 none]
set_option maxRecDepth 100000 in
theorem wg_2_ok : wg_2.all (fun w => decide (w ∈ lw_tbl) && goodWord w) = true := by decide +kernel
theorem w_80 : (.code yX0_needForm cX0_needForm 2 none : Cond) ∈ WA := wa_of (List.all_eq_true.mp wg_2_ok _ (List.mem_of_getElem? (i := 0) rfl))
theorem w_81 : (.methodLink RX0 197 yX0_isByCondition : Cond) ∈ WA := wa_of (List.all_eq_true.mp wg_2_ok _ (List.mem_of_getElem? (i := 1) rfl))
theorem w_82 : (.instanceMethod yX0_isByCondition : Cond) ∈ WA := wa_of (List.all_eq_true.mp wg_2_ok _ (List.mem_of_getElem? (i := 2) rfl))
theorem w_83 : (.selects RX0 yX0_isByCondition yX0_isByCondition : Cond) ∈ WA := wa_of (List.all_eq_true.mp wg_2_ok _ (List.mem_of_getElem? (i := 3) rfl))
theorem w_84 : (.methodLink RX0 135 yX0_needForm : Cond) ∈ WA := wa_of (List.all_eq_true.mp wg_2_ok _ (List.mem_of_getElem? (i := 4) rfl))
theorem w_85 : (.instanceMethod yX0_needForm : Cond) ∈ WA := wa_of (List.all_eq_true.mp wg_2_ok _ (List.mem_of_getElem? (i := 5) rfl))
theorem w_86 : (.selects RX0 yX0_needForm yX0_needForm : Cond) ∈ WA := wa_of (List.all_eq_true.mp wg_2_ok _ (List.mem_of_getElem? (i := 6) rfl))
theorem w_87 : (.code yX0_needSettable cX0_needSettable 4 none : Cond) ∈ WA := wa_of (List.all_eq_true.mp wg_2_ok _ (List.mem_of_getElem? (i := 7) rfl))
theorem w_88 : (.code yX0_holds cX0_holds 4 (some .boolean) : Cond) ∈ WA := wa_of (List.all_eq_true.mp wg_2_ok _ (List.mem_of_getElem? (i := 8) rfl))
theorem w_89 : (.code yX0_makeClass cX0_makeClass 5 none : Cond) ∈ WA := wa_of (List.all_eq_true.mp wg_2_ok _ (List.mem_of_getElem? (i := 9) rfl))
theorem w_90 : (.code yX0_goesBothWays cX0_goesBothWays 2 (some .boolean) : Cond) ∈ WA := wa_of (List.all_eq_true.mp wg_2_ok _ (List.mem_of_getElem? (i := 10) rfl))
theorem w_91 : (.code yX0_part cX0_part 4 none : Cond) ∈ WA := wa_of (List.all_eq_true.mp wg_2_ok _ (List.mem_of_getElem? (i := 11) rfl))
theorem w_92 : (.constantLong RX0 231 (-1) : Cond) ∈ WA := wa_of (List.all_eq_true.mp wg_2_ok _ (List.mem_of_getElem? (i := 12) rfl))
theorem w_93 : (.methodLink RX0 224 yX0_makeClass : Cond) ∈ WA := wa_of (List.all_eq_true.mp wg_2_ok _ (List.mem_of_getElem? (i := 13) rfl))
theorem w_94 : (.instanceMethod yX0_makeClass : Cond) ∈ WA := wa_of (List.all_eq_true.mp wg_2_ok _ (List.mem_of_getElem? (i := 14) rfl))
theorem w_95 : (.selects RX0 yX0_makeClass yX0_makeClass : Cond) ∈ WA := wa_of (List.all_eq_true.mp wg_2_ok _ (List.mem_of_getElem? (i := 15) rfl))
theorem w_96 : (.methodLink RX0 228 yX0_goesBothWays : Cond) ∈ WA := wa_of (List.all_eq_true.mp wg_2_ok _ (List.mem_of_getElem? (i := 16) rfl))
theorem w_97 : (.instanceMethod yX0_goesBothWays : Cond) ∈ WA := wa_of (List.all_eq_true.mp wg_2_ok _ (List.mem_of_getElem? (i := 17) rfl))
theorem w_98 : (.selects RX0 yX0_goesBothWays yX0_goesBothWays : Cond) ∈ WA := wa_of (List.all_eq_true.mp wg_2_ok _ (List.mem_of_getElem? (i := 18) rfl))
theorem w_99 : (.code yX0_pushPair cX0_pushPair 4 none : Cond) ∈ WA := wa_of (List.all_eq_true.mp wg_2_ok _ (List.mem_of_getElem? (i := 19) rfl))
theorem w_100 : (.methodLink RX0 132 yX0_part : Cond) ∈ WA := wa_of (List.all_eq_true.mp wg_2_ok _ (List.mem_of_getElem? (i := 20) rfl))
theorem w_101 : (.instanceMethod yX0_part : Cond) ∈ WA := wa_of (List.all_eq_true.mp wg_2_ok _ (List.mem_of_getElem? (i := 21) rfl))
theorem w_102 : (.selects RX0 yX0_part yX0_part : Cond) ∈ WA := wa_of (List.all_eq_true.mp wg_2_ok _ (List.mem_of_getElem? (i := 22) rfl))
theorem w_103 : (.methodLink RX0 119 yX0_holds : Cond) ∈ WA := wa_of (List.all_eq_true.mp wg_2_ok _ (List.mem_of_getElem? (i := 23) rfl))
theorem w_104 : (.instanceMethod yX0_holds : Cond) ∈ WA := wa_of (List.all_eq_true.mp wg_2_ok _ (List.mem_of_getElem? (i := 24) rfl))
theorem w_105 : (.selects RX0 yX0_holds yX0_holds : Cond) ∈ WA := wa_of (List.all_eq_true.mp wg_2_ok _ (List.mem_of_getElem? (i := 25) rfl))
theorem w_106 : (.methodLink RX0 221 yX0_pushPair : Cond) ∈ WA := wa_of (List.all_eq_true.mp wg_2_ok _ (List.mem_of_getElem? (i := 26) rfl))
theorem w_107 : (.instanceMethod yX0_pushPair : Cond) ∈ WA := wa_of (List.all_eq_true.mp wg_2_ok _ (List.mem_of_getElem? (i := 27) rfl))
theorem w_108 : (.selects RX0 yX0_pushPair yX0_pushPair : Cond) ∈ WA := wa_of (List.all_eq_true.mp wg_2_ok _ (List.mem_of_getElem? (i := 28) rfl))
theorem w_109 : (.code yX0_pushRow cX0_pushRow 4 none : Cond) ∈ WA := wa_of (List.all_eq_true.mp wg_2_ok _ (List.mem_of_getElem? (i := 29) rfl))
theorem w_110 : (.code yX0_pushColumn cX0_pushColumn 4 none : Cond) ∈ WA := wa_of (List.all_eq_true.mp wg_2_ok _ (List.mem_of_getElem? (i := 30) rfl))
theorem w_111 : (.methodLink RX0 215 yX0_pushRow : Cond) ∈ WA := wa_of (List.all_eq_true.mp wg_2_ok _ (List.mem_of_getElem? (i := 31) rfl))
theorem w_112 : (.instanceMethod yX0_pushRow : Cond) ∈ WA := wa_of (List.all_eq_true.mp wg_2_ok _ (List.mem_of_getElem? (i := 32) rfl))
theorem w_113 : (.selects RX0 yX0_pushRow yX0_pushRow : Cond) ∈ WA := wa_of (List.all_eq_true.mp wg_2_ok _ (List.mem_of_getElem? (i := 33) rfl))
theorem w_114 : (.methodLink RX0 218 yX0_pushColumn : Cond) ∈ WA := wa_of (List.all_eq_true.mp wg_2_ok _ (List.mem_of_getElem? (i := 34) rfl))
theorem w_115 : (.instanceMethod yX0_pushColumn : Cond) ∈ WA := wa_of (List.all_eq_true.mp wg_2_ok _ (List.mem_of_getElem? (i := 35) rfl))
theorem w_116 : (.selects RX0 yX0_pushColumn yX0_pushColumn : Cond) ∈ WA := wa_of (List.all_eq_true.mp wg_2_ok _ (List.mem_of_getElem? (i := 36) rfl))
theorem w_117 : (.code yX0_pushOut cX0_pushOut 4 none : Cond) ∈ WA := wa_of (List.all_eq_true.mp wg_2_ok _ (List.mem_of_getElem? (i := 37) rfl))
theorem w_118 : (.code yX0_join cX0_join 4 none : Cond) ∈ WA := wa_of (List.all_eq_true.mp wg_2_ok _ (List.mem_of_getElem? (i := 38) rfl))
theorem w_119 : (.code yX0_makeStale cX0_makeStale 2 none : Cond) ∈ WA := wa_of (List.all_eq_true.mp wg_2_ok _ (List.mem_of_getElem? (i := 39) rfl))
def wg_3 : List Cond := [.methodLink RX0 115 yX0_needSettable, .instanceMethod yX0_needSettable, .selects RX0 yX0_needSettable yX0_needSettable, .methodLink RX0 123 yX0_pushOut, .instanceMethod yX0_pushOut, .selects RX0 yX0_pushOut yX0_pushOut, .methodLink RX0 126 yX0_join, .instanceMethod yX0_join, .selects RX0 yX0_join yX0_join, .methodLink RX0 129 yX0_makeStale, .instanceMethod yX0_makeStale, .selects RX0 yX0_makeStale yX0_makeStale, .code yX0_set cX0_set 4 (some .int), .code yX0_drop cX0_drop 4 (some .boolean), .code yJ13_bitCount_95d88 cJ13_bitCount_95d88 2 (some .int), .constantLong RJ13 314 (6148914691236517205), .constantLong RJ13 316 (3689348814741910323), .constantLong RJ13 318 (1085102592571150095), .code yX0_pairsOf cX0_pairsOf 4 (some .int), .methodLink RX0 210 yJ13_bitCount_95d88, .static yJ13_bitCount_95d88, .initialized RJ13, .methodLink RX0 138 yX0_pairsOf, .instanceMethod yX0_pairsOf, .selects RX0 yX0_pairsOf yX0_pairsOf, .code yX0_empty cX0_empty 3 (some .int), .code yX0_pushed cX0_pushed 3 (some .int), .classLink RX0 144 "java/util/NoSuchElementException", .initialized "java/util/NoSuchElementException", .code yX0_workOutFar cX0_workOutFar 4 none, .methodLink RX0 247 arraycopyName, .native arraycopyName, .static arraycopyName, .initialized "java/lang/System", .code yX0_column cX0_column 6 (some .long), .code yX0_rowThrough cX0_rowThrough 7 (some .long), .code yX0_rowBy cX0_rowBy 5 (some .long), .methodLink RX0 156 yX0_column, .instanceMethod yX0_column, .selects RX0 yX0_column yX0_column]
set_option maxRecDepth 100000 in
theorem wg_3_ok : wg_3.all (fun w => decide (w ∈ lw_tbl) && goodWord w) = true := by decide +kernel
theorem w_120 : (.methodLink RX0 115 yX0_needSettable : Cond) ∈ WA := wa_of (List.all_eq_true.mp wg_3_ok _ (List.mem_of_getElem? (i := 0) rfl))
theorem w_121 : (.instanceMethod yX0_needSettable : Cond) ∈ WA := wa_of (List.all_eq_true.mp wg_3_ok _ (List.mem_of_getElem? (i := 1) rfl))
theorem w_122 : (.selects RX0 yX0_needSettable yX0_needSettable : Cond) ∈ WA := wa_of (List.all_eq_true.mp wg_3_ok _ (List.mem_of_getElem? (i := 2) rfl))
theorem w_123 : (.methodLink RX0 123 yX0_pushOut : Cond) ∈ WA := wa_of (List.all_eq_true.mp wg_3_ok _ (List.mem_of_getElem? (i := 3) rfl))
theorem w_124 : (.instanceMethod yX0_pushOut : Cond) ∈ WA := wa_of (List.all_eq_true.mp wg_3_ok _ (List.mem_of_getElem? (i := 4) rfl))
theorem w_125 : (.selects RX0 yX0_pushOut yX0_pushOut : Cond) ∈ WA := wa_of (List.all_eq_true.mp wg_3_ok _ (List.mem_of_getElem? (i := 5) rfl))
theorem w_126 : (.methodLink RX0 126 yX0_join : Cond) ∈ WA := wa_of (List.all_eq_true.mp wg_3_ok _ (List.mem_of_getElem? (i := 6) rfl))
theorem w_127 : (.instanceMethod yX0_join : Cond) ∈ WA := wa_of (List.all_eq_true.mp wg_3_ok _ (List.mem_of_getElem? (i := 7) rfl))
theorem w_128 : (.selects RX0 yX0_join yX0_join : Cond) ∈ WA := wa_of (List.all_eq_true.mp wg_3_ok _ (List.mem_of_getElem? (i := 8) rfl))
theorem w_129 : (.methodLink RX0 129 yX0_makeStale : Cond) ∈ WA := wa_of (List.all_eq_true.mp wg_3_ok _ (List.mem_of_getElem? (i := 9) rfl))
theorem w_130 : (.instanceMethod yX0_makeStale : Cond) ∈ WA := wa_of (List.all_eq_true.mp wg_3_ok _ (List.mem_of_getElem? (i := 10) rfl))
theorem w_131 : (.selects RX0 yX0_makeStale yX0_makeStale : Cond) ∈ WA := wa_of (List.all_eq_true.mp wg_3_ok _ (List.mem_of_getElem? (i := 11) rfl))
theorem w_132 : (.code yX0_set cX0_set 4 (some .int) : Cond) ∈ WA := wa_of (List.all_eq_true.mp wg_3_ok _ (List.mem_of_getElem? (i := 12) rfl))
theorem w_133 : (.code yX0_drop cX0_drop 4 (some .boolean) : Cond) ∈ WA := wa_of (List.all_eq_true.mp wg_3_ok _ (List.mem_of_getElem? (i := 13) rfl))
theorem w_134 : (.code yJ13_bitCount_95d88 cJ13_bitCount_95d88 2 (some .int) : Cond) ∈ WA := wa_of (List.all_eq_true.mp wg_3_ok _ (List.mem_of_getElem? (i := 14) rfl))
theorem w_135 : (.constantLong RJ13 314 (6148914691236517205) : Cond) ∈ WA := wa_of (List.all_eq_true.mp wg_3_ok _ (List.mem_of_getElem? (i := 15) rfl))
theorem w_136 : (.constantLong RJ13 316 (3689348814741910323) : Cond) ∈ WA := wa_of (List.all_eq_true.mp wg_3_ok _ (List.mem_of_getElem? (i := 16) rfl))
theorem w_137 : (.constantLong RJ13 318 (1085102592571150095) : Cond) ∈ WA := wa_of (List.all_eq_true.mp wg_3_ok _ (List.mem_of_getElem? (i := 17) rfl))
theorem w_138 : (.code yX0_pairsOf cX0_pairsOf 4 (some .int) : Cond) ∈ WA := wa_of (List.all_eq_true.mp wg_3_ok _ (List.mem_of_getElem? (i := 18) rfl))
theorem w_139 : (.methodLink RX0 210 yJ13_bitCount_95d88 : Cond) ∈ WA := wa_of (List.all_eq_true.mp wg_3_ok _ (List.mem_of_getElem? (i := 19) rfl))
theorem w_140 : (.static yJ13_bitCount_95d88 : Cond) ∈ WA := wa_of (List.all_eq_true.mp wg_3_ok _ (List.mem_of_getElem? (i := 20) rfl))
theorem w_141 : (.initialized RJ13 : Cond) ∈ WA := wa_of (List.all_eq_true.mp wg_3_ok _ (List.mem_of_getElem? (i := 21) rfl))
theorem w_142 : (.methodLink RX0 138 yX0_pairsOf : Cond) ∈ WA := wa_of (List.all_eq_true.mp wg_3_ok _ (List.mem_of_getElem? (i := 22) rfl))
theorem w_143 : (.instanceMethod yX0_pairsOf : Cond) ∈ WA := wa_of (List.all_eq_true.mp wg_3_ok _ (List.mem_of_getElem? (i := 23) rfl))
theorem w_144 : (.selects RX0 yX0_pairsOf yX0_pairsOf : Cond) ∈ WA := wa_of (List.all_eq_true.mp wg_3_ok _ (List.mem_of_getElem? (i := 24) rfl))
theorem w_145 : (.code yX0_empty cX0_empty 3 (some .int) : Cond) ∈ WA := wa_of (List.all_eq_true.mp wg_3_ok _ (List.mem_of_getElem? (i := 25) rfl))
theorem w_146 : (.code yX0_pushed cX0_pushed 3 (some .int) : Cond) ∈ WA := wa_of (List.all_eq_true.mp wg_3_ok _ (List.mem_of_getElem? (i := 26) rfl))
theorem w_147 : (.classLink RX0 144 "java/util/NoSuchElementException" : Cond) ∈ WA := wa_of (List.all_eq_true.mp wg_3_ok _ (List.mem_of_getElem? (i := 27) rfl))
theorem w_148 : (.initialized "java/util/NoSuchElementException" : Cond) ∈ WA := wa_of (List.all_eq_true.mp wg_3_ok _ (List.mem_of_getElem? (i := 28) rfl))
theorem w_149 : (.code yX0_workOutFar cX0_workOutFar 4 none : Cond) ∈ WA := wa_of (List.all_eq_true.mp wg_3_ok _ (List.mem_of_getElem? (i := 29) rfl))
theorem w_150 : (.methodLink RX0 247 arraycopyName : Cond) ∈ WA := wa_of (List.all_eq_true.mp wg_3_ok _ (List.mem_of_getElem? (i := 30) rfl))
theorem w_151 : (.native arraycopyName : Cond) ∈ WA := wa_of (List.all_eq_true.mp wg_3_ok _ (List.mem_of_getElem? (i := 31) rfl))
theorem w_152 : (.static arraycopyName : Cond) ∈ WA := wa_of (List.all_eq_true.mp wg_3_ok _ (List.mem_of_getElem? (i := 32) rfl))
theorem w_153 : (.initialized "java/lang/System" : Cond) ∈ WA := wa_of (List.all_eq_true.mp wg_3_ok _ (List.mem_of_getElem? (i := 33) rfl))
theorem w_154 : (.code yX0_column cX0_column 6 (some .long) : Cond) ∈ WA := wa_of (List.all_eq_true.mp wg_3_ok _ (List.mem_of_getElem? (i := 34) rfl))
theorem w_155 : (.code yX0_rowThrough cX0_rowThrough 7 (some .long) : Cond) ∈ WA := wa_of (List.all_eq_true.mp wg_3_ok _ (List.mem_of_getElem? (i := 35) rfl))
theorem w_156 : (.code yX0_rowBy cX0_rowBy 5 (some .long) : Cond) ∈ WA := wa_of (List.all_eq_true.mp wg_3_ok _ (List.mem_of_getElem? (i := 36) rfl))
theorem w_157 : (.methodLink RX0 156 yX0_column : Cond) ∈ WA := wa_of (List.all_eq_true.mp wg_3_ok _ (List.mem_of_getElem? (i := 37) rfl))
theorem w_158 : (.instanceMethod yX0_column : Cond) ∈ WA := wa_of (List.all_eq_true.mp wg_3_ok _ (List.mem_of_getElem? (i := 38) rfl))
theorem w_159 : (.selects RX0 yX0_column yX0_column : Cond) ∈ WA := wa_of (List.all_eq_true.mp wg_3_ok _ (List.mem_of_getElem? (i := 39) rfl))
def wg_4 : List Cond := [.methodLink RX0 243 yX0_rowThrough, .instanceMethod yX0_rowThrough, .selects RX0 yX0_rowThrough yX0_rowThrough, .methodLink RX0 236 yX0_workOutFar, .instanceMethod yX0_workOutFar, .selects RX0 yX0_workOutFar yX0_workOutFar, .methodLink RX0 239 yX0_rowBy, .instanceMethod yX0_rowBy, .selects RX0 yX0_rowBy yX0_rowBy, .code yX0_workOut cX0_workOut 4 none, .methodLink RX0 233 yX0_workOut, .instanceMethod yX0_workOut, .selects RX0 yX0_workOut yX0_workOut, .code yX0_settle cX0_settle 3 none, .methodLink RX0 149 yX0_settle, .instanceMethod yX0_settle, .selects RX0 yX0_settle yX0_settle, .code yX0_has cX0_has 4 (some .boolean), .code yJ6_numberOfTrailingZeros_0f7a4 cJ6_numberOfTrailingZeros_0f7a4 2 (some .int), .constant RJ6 264 (65536), .code yJ13_numberOfTrailingZeros_95d88 cJ13_numberOfTrailingZeros_95d88 3 (some .int), .methodLink RJ13 311 yJ6_numberOfTrailingZeros_0f7a4, .static yJ6_numberOfTrailingZeros_0f7a4, .initialized RJ6, .code yX0_pick cX0_pick 7 (some .int), .methodLink RX0 177 yJ13_numberOfTrailingZeros_95d88, .static yJ13_numberOfTrailingZeros_95d88, .methodLink RX0 152 yX0_pick, .instanceMethod yX0_pick, .selects RX0 yX0_pick yX0_pick, .code yX0_next cX0_next 4 (some .int), .code yX0_back cX0_back 4 (some .int), .code yX0_count cX0_count 2 (some .int), .code yX0_measureSteps cX0_measureSteps 9 none, .methodLink RX0 160 yX0_measureSteps, .instanceMethod yX0_measureSteps, .selects RX0 yX0_measureSteps yX0_measureSteps, .code yX0_length cX0_length 4 (some .int), .code yX0_stepNearer cX0_stepNearer 4 (some .int), .methodLink RX0 166 yX0_stepNearer]
set_option maxRecDepth 100000 in
theorem wg_4_ok : wg_4.all (fun w => decide (w ∈ lw_tbl) && goodWord w) = true := by decide +kernel
theorem w_160 : (.methodLink RX0 243 yX0_rowThrough : Cond) ∈ WA := wa_of (List.all_eq_true.mp wg_4_ok _ (List.mem_of_getElem? (i := 0) rfl))
theorem w_161 : (.instanceMethod yX0_rowThrough : Cond) ∈ WA := wa_of (List.all_eq_true.mp wg_4_ok _ (List.mem_of_getElem? (i := 1) rfl))
theorem w_162 : (.selects RX0 yX0_rowThrough yX0_rowThrough : Cond) ∈ WA := wa_of (List.all_eq_true.mp wg_4_ok _ (List.mem_of_getElem? (i := 2) rfl))
theorem w_163 : (.methodLink RX0 236 yX0_workOutFar : Cond) ∈ WA := wa_of (List.all_eq_true.mp wg_4_ok _ (List.mem_of_getElem? (i := 3) rfl))
theorem w_164 : (.instanceMethod yX0_workOutFar : Cond) ∈ WA := wa_of (List.all_eq_true.mp wg_4_ok _ (List.mem_of_getElem? (i := 4) rfl))
theorem w_165 : (.selects RX0 yX0_workOutFar yX0_workOutFar : Cond) ∈ WA := wa_of (List.all_eq_true.mp wg_4_ok _ (List.mem_of_getElem? (i := 5) rfl))
theorem w_166 : (.methodLink RX0 239 yX0_rowBy : Cond) ∈ WA := wa_of (List.all_eq_true.mp wg_4_ok _ (List.mem_of_getElem? (i := 6) rfl))
theorem w_167 : (.instanceMethod yX0_rowBy : Cond) ∈ WA := wa_of (List.all_eq_true.mp wg_4_ok _ (List.mem_of_getElem? (i := 7) rfl))
theorem w_168 : (.selects RX0 yX0_rowBy yX0_rowBy : Cond) ∈ WA := wa_of (List.all_eq_true.mp wg_4_ok _ (List.mem_of_getElem? (i := 8) rfl))
theorem w_169 : (.code yX0_workOut cX0_workOut 4 none : Cond) ∈ WA := wa_of (List.all_eq_true.mp wg_4_ok _ (List.mem_of_getElem? (i := 9) rfl))
theorem w_170 : (.methodLink RX0 233 yX0_workOut : Cond) ∈ WA := wa_of (List.all_eq_true.mp wg_4_ok _ (List.mem_of_getElem? (i := 10) rfl))
theorem w_171 : (.instanceMethod yX0_workOut : Cond) ∈ WA := wa_of (List.all_eq_true.mp wg_4_ok _ (List.mem_of_getElem? (i := 11) rfl))
theorem w_172 : (.selects RX0 yX0_workOut yX0_workOut : Cond) ∈ WA := wa_of (List.all_eq_true.mp wg_4_ok _ (List.mem_of_getElem? (i := 12) rfl))
theorem w_173 : (.code yX0_settle cX0_settle 3 none : Cond) ∈ WA := wa_of (List.all_eq_true.mp wg_4_ok _ (List.mem_of_getElem? (i := 13) rfl))
theorem w_174 : (.methodLink RX0 149 yX0_settle : Cond) ∈ WA := wa_of (List.all_eq_true.mp wg_4_ok _ (List.mem_of_getElem? (i := 14) rfl))
theorem w_175 : (.instanceMethod yX0_settle : Cond) ∈ WA := wa_of (List.all_eq_true.mp wg_4_ok _ (List.mem_of_getElem? (i := 15) rfl))
theorem w_176 : (.selects RX0 yX0_settle yX0_settle : Cond) ∈ WA := wa_of (List.all_eq_true.mp wg_4_ok _ (List.mem_of_getElem? (i := 16) rfl))
theorem w_177 : (.code yX0_has cX0_has 4 (some .boolean) : Cond) ∈ WA := wa_of (List.all_eq_true.mp wg_4_ok _ (List.mem_of_getElem? (i := 17) rfl))
theorem w_178 : (.code yJ6_numberOfTrailingZeros_0f7a4 cJ6_numberOfTrailingZeros_0f7a4 2 (some .int) : Cond) ∈ WA := wa_of (List.all_eq_true.mp wg_4_ok _ (List.mem_of_getElem? (i := 18) rfl))
theorem w_179 : (.constant RJ6 264 (65536) : Cond) ∈ WA := wa_of (List.all_eq_true.mp wg_4_ok _ (List.mem_of_getElem? (i := 19) rfl))
theorem w_180 : (.code yJ13_numberOfTrailingZeros_95d88 cJ13_numberOfTrailingZeros_95d88 3 (some .int) : Cond) ∈ WA := wa_of (List.all_eq_true.mp wg_4_ok _ (List.mem_of_getElem? (i := 20) rfl))
theorem w_181 : (.methodLink RJ13 311 yJ6_numberOfTrailingZeros_0f7a4 : Cond) ∈ WA := wa_of (List.all_eq_true.mp wg_4_ok _ (List.mem_of_getElem? (i := 21) rfl))
theorem w_182 : (.static yJ6_numberOfTrailingZeros_0f7a4 : Cond) ∈ WA := wa_of (List.all_eq_true.mp wg_4_ok _ (List.mem_of_getElem? (i := 22) rfl))
theorem w_183 : (.initialized RJ6 : Cond) ∈ WA := wa_of (List.all_eq_true.mp wg_4_ok _ (List.mem_of_getElem? (i := 23) rfl))
theorem w_184 : (.code yX0_pick cX0_pick 7 (some .int) : Cond) ∈ WA := wa_of (List.all_eq_true.mp wg_4_ok _ (List.mem_of_getElem? (i := 24) rfl))
theorem w_185 : (.methodLink RX0 177 yJ13_numberOfTrailingZeros_95d88 : Cond) ∈ WA := wa_of (List.all_eq_true.mp wg_4_ok _ (List.mem_of_getElem? (i := 25) rfl))
theorem w_186 : (.static yJ13_numberOfTrailingZeros_95d88 : Cond) ∈ WA := wa_of (List.all_eq_true.mp wg_4_ok _ (List.mem_of_getElem? (i := 26) rfl))
theorem w_187 : (.methodLink RX0 152 yX0_pick : Cond) ∈ WA := wa_of (List.all_eq_true.mp wg_4_ok _ (List.mem_of_getElem? (i := 27) rfl))
theorem w_188 : (.instanceMethod yX0_pick : Cond) ∈ WA := wa_of (List.all_eq_true.mp wg_4_ok _ (List.mem_of_getElem? (i := 28) rfl))
theorem w_189 : (.selects RX0 yX0_pick yX0_pick : Cond) ∈ WA := wa_of (List.all_eq_true.mp wg_4_ok _ (List.mem_of_getElem? (i := 29) rfl))
theorem w_190 : (.code yX0_next cX0_next 4 (some .int) : Cond) ∈ WA := wa_of (List.all_eq_true.mp wg_4_ok _ (List.mem_of_getElem? (i := 30) rfl))
theorem w_191 : (.code yX0_back cX0_back 4 (some .int) : Cond) ∈ WA := wa_of (List.all_eq_true.mp wg_4_ok _ (List.mem_of_getElem? (i := 31) rfl))
theorem w_192 : (.code yX0_count cX0_count 2 (some .int) : Cond) ∈ WA := wa_of (List.all_eq_true.mp wg_4_ok _ (List.mem_of_getElem? (i := 32) rfl))
theorem w_193 : (.code yX0_measureSteps cX0_measureSteps 9 none : Cond) ∈ WA := wa_of (List.all_eq_true.mp wg_4_ok _ (List.mem_of_getElem? (i := 33) rfl))
theorem w_194 : (.methodLink RX0 160 yX0_measureSteps : Cond) ∈ WA := wa_of (List.all_eq_true.mp wg_4_ok _ (List.mem_of_getElem? (i := 34) rfl))
theorem w_195 : (.instanceMethod yX0_measureSteps : Cond) ∈ WA := wa_of (List.all_eq_true.mp wg_4_ok _ (List.mem_of_getElem? (i := 35) rfl))
theorem w_196 : (.selects RX0 yX0_measureSteps yX0_measureSteps : Cond) ∈ WA := wa_of (List.all_eq_true.mp wg_4_ok _ (List.mem_of_getElem? (i := 36) rfl))
theorem w_197 : (.code yX0_length cX0_length 4 (some .int) : Cond) ∈ WA := wa_of (List.all_eq_true.mp wg_4_ok _ (List.mem_of_getElem? (i := 37) rfl))
theorem w_198 : (.code yX0_stepNearer cX0_stepNearer 4 (some .int) : Cond) ∈ WA := wa_of (List.all_eq_true.mp wg_4_ok _ (List.mem_of_getElem? (i := 38) rfl))
theorem w_199 : (.methodLink RX0 166 yX0_stepNearer : Cond) ∈ WA := wa_of (List.all_eq_true.mp wg_4_ok _ (List.mem_of_getElem? (i := 39) rfl))
def wg_5 : List Cond := [.instanceMethod yX0_stepNearer, .selects RX0 yX0_stepNearer yX0_stepNearer, .code yX0_route cX0_route 7 (some .int), .code yX0_leader cX0_leader 3 (some .int), .code yX0_differ cX0_differ 6 (some .int), .code yX0_tally cX0_tally 3 (some .int), .classLink RX0 186 RJx00060, .instantiable RJx00060 6, .initialized RJx00060, .code yX0_of cX0_of 2 (some .int), .code yX0_told cX0_told 3 (some .int), .code yX1_begin cX1_begin 2 none, .fieldLink RX1 51 "RelationRowsModel" "relations" "I", .fieldLink RX1 54 "RelationRowsModel" "pushes" "I", .fieldLink RX1 7 "RelationRowsModel" "kinds" "[I", .fieldLink RX1 32 "RelationRowsModel" "tallies" "[I", .code yX1_init cX1_init 2 none, .methodLink RX1 1 objectInit, .fieldLink RX1 13 "RelationRowsModel" "form" "[I", .fieldLink RX1 16 "RelationRowsModel" "one" "[I", .fieldLink RX1 19 "RelationRowsModel" "two" "[I", .arrayClass .boolean, .fieldLink RX1 22 "RelationRowsModel" "pairs" "[Z", .fieldLink RX1 26 "RelationRowsModel" "pushedFirst" "[I", .fieldLink RX1 29 "RelationRowsModel" "pushedSecond" "[I", .fieldLink RX1 35 "RelationRowsModel" "joined" "[Z", .fieldLink RX1 38 "RelationRowsModel" "steps" "[I", .fieldLink RX1 41 "RelationRowsModel" "things" "I", .methodLink RX1 45 yX1_begin, .instanceMethod yX1_begin, .selects RX1 yX1_begin yX1_begin, .initialized RX1, .code yX1_thrown cX1_thrown 1 (some .int), .fieldLink RX1 48 "RelationRowsModel" "code" "I", .code yX1_clear cX1_clear 2 (some .int), .code yX1_isGood cX1_isGood 2 (some .boolean), .code yX1_isIn cX1_isIn 3 (some .boolean), .code yX1_isThing cX1_isThing 2 (some .boolean), .methodLink RX1 57 yX1_isIn, .static yX1_isIn]
set_option maxRecDepth 100000 in
theorem wg_5_ok : wg_5.all (fun w => decide (w ∈ lw_tbl) && goodWord w) = true := by decide +kernel
theorem w_200 : (.instanceMethod yX0_stepNearer : Cond) ∈ WA := wa_of (List.all_eq_true.mp wg_5_ok _ (List.mem_of_getElem? (i := 0) rfl))
theorem w_201 : (.selects RX0 yX0_stepNearer yX0_stepNearer : Cond) ∈ WA := wa_of (List.all_eq_true.mp wg_5_ok _ (List.mem_of_getElem? (i := 1) rfl))
theorem w_202 : (.code yX0_route cX0_route 7 (some .int) : Cond) ∈ WA := wa_of (List.all_eq_true.mp wg_5_ok _ (List.mem_of_getElem? (i := 2) rfl))
theorem w_203 : (.code yX0_leader cX0_leader 3 (some .int) : Cond) ∈ WA := wa_of (List.all_eq_true.mp wg_5_ok _ (List.mem_of_getElem? (i := 3) rfl))
theorem w_204 : (.code yX0_differ cX0_differ 6 (some .int) : Cond) ∈ WA := wa_of (List.all_eq_true.mp wg_5_ok _ (List.mem_of_getElem? (i := 4) rfl))
theorem w_205 : (.code yX0_tally cX0_tally 3 (some .int) : Cond) ∈ WA := wa_of (List.all_eq_true.mp wg_5_ok _ (List.mem_of_getElem? (i := 5) rfl))
theorem w_206 : (.classLink RX0 186 RJx00060 : Cond) ∈ WA := wa_of (List.all_eq_true.mp wg_5_ok _ (List.mem_of_getElem? (i := 6) rfl))
theorem w_207 : (.instantiable RJx00060 6 : Cond) ∈ WA := wa_of (List.all_eq_true.mp wg_5_ok _ (List.mem_of_getElem? (i := 7) rfl))
theorem w_208 : (.initialized RJx00060 : Cond) ∈ WA := wa_of (List.all_eq_true.mp wg_5_ok _ (List.mem_of_getElem? (i := 8) rfl))
theorem w_209 : (.code yX0_of cX0_of 2 (some .int) : Cond) ∈ WA := wa_of (List.all_eq_true.mp wg_5_ok _ (List.mem_of_getElem? (i := 9) rfl))
theorem w_210 : (.code yX0_told cX0_told 3 (some .int) : Cond) ∈ WA := wa_of (List.all_eq_true.mp wg_5_ok _ (List.mem_of_getElem? (i := 10) rfl))
theorem w_211 : (.code yX1_begin cX1_begin 2 none : Cond) ∈ WA := wa_of (List.all_eq_true.mp wg_5_ok _ (List.mem_of_getElem? (i := 11) rfl))
theorem w_212 : (.fieldLink RX1 51 "RelationRowsModel" "relations" "I" : Cond) ∈ WA := wa_of (List.all_eq_true.mp wg_5_ok _ (List.mem_of_getElem? (i := 12) rfl))
theorem w_213 : (.fieldLink RX1 54 "RelationRowsModel" "pushes" "I" : Cond) ∈ WA := wa_of (List.all_eq_true.mp wg_5_ok _ (List.mem_of_getElem? (i := 13) rfl))
theorem w_214 : (.fieldLink RX1 7 "RelationRowsModel" "kinds" "[I" : Cond) ∈ WA := wa_of (List.all_eq_true.mp wg_5_ok _ (List.mem_of_getElem? (i := 14) rfl))
theorem w_215 : (.fieldLink RX1 32 "RelationRowsModel" "tallies" "[I" : Cond) ∈ WA := wa_of (List.all_eq_true.mp wg_5_ok _ (List.mem_of_getElem? (i := 15) rfl))
theorem w_216 : (.code yX1_init cX1_init 2 none : Cond) ∈ WA := wa_of (List.all_eq_true.mp wg_5_ok _ (List.mem_of_getElem? (i := 16) rfl))
theorem w_217 : (.methodLink RX1 1 objectInit : Cond) ∈ WA := wa_of (List.all_eq_true.mp wg_5_ok _ (List.mem_of_getElem? (i := 17) rfl))
theorem w_218 : (.fieldLink RX1 13 "RelationRowsModel" "form" "[I" : Cond) ∈ WA := wa_of (List.all_eq_true.mp wg_5_ok _ (List.mem_of_getElem? (i := 18) rfl))
theorem w_219 : (.fieldLink RX1 16 "RelationRowsModel" "one" "[I" : Cond) ∈ WA := wa_of (List.all_eq_true.mp wg_5_ok _ (List.mem_of_getElem? (i := 19) rfl))
theorem w_220 : (.fieldLink RX1 19 "RelationRowsModel" "two" "[I" : Cond) ∈ WA := wa_of (List.all_eq_true.mp wg_5_ok _ (List.mem_of_getElem? (i := 20) rfl))
theorem w_221 : (.arrayClass .boolean : Cond) ∈ WA := wa_of (List.all_eq_true.mp wg_5_ok _ (List.mem_of_getElem? (i := 21) rfl))
theorem w_222 : (.fieldLink RX1 22 "RelationRowsModel" "pairs" "[Z" : Cond) ∈ WA := wa_of (List.all_eq_true.mp wg_5_ok _ (List.mem_of_getElem? (i := 22) rfl))
theorem w_223 : (.fieldLink RX1 26 "RelationRowsModel" "pushedFirst" "[I" : Cond) ∈ WA := wa_of (List.all_eq_true.mp wg_5_ok _ (List.mem_of_getElem? (i := 23) rfl))
theorem w_224 : (.fieldLink RX1 29 "RelationRowsModel" "pushedSecond" "[I" : Cond) ∈ WA := wa_of (List.all_eq_true.mp wg_5_ok _ (List.mem_of_getElem? (i := 24) rfl))
theorem w_225 : (.fieldLink RX1 35 "RelationRowsModel" "joined" "[Z" : Cond) ∈ WA := wa_of (List.all_eq_true.mp wg_5_ok _ (List.mem_of_getElem? (i := 25) rfl))
theorem w_226 : (.fieldLink RX1 38 "RelationRowsModel" "steps" "[I" : Cond) ∈ WA := wa_of (List.all_eq_true.mp wg_5_ok _ (List.mem_of_getElem? (i := 26) rfl))
theorem w_227 : (.fieldLink RX1 41 "RelationRowsModel" "things" "I" : Cond) ∈ WA := wa_of (List.all_eq_true.mp wg_5_ok _ (List.mem_of_getElem? (i := 27) rfl))
theorem w_228 : (.methodLink RX1 45 yX1_begin : Cond) ∈ WA := wa_of (List.all_eq_true.mp wg_5_ok _ (List.mem_of_getElem? (i := 28) rfl))
theorem w_229 : (.instanceMethod yX1_begin : Cond) ∈ WA := wa_of (List.all_eq_true.mp wg_5_ok _ (List.mem_of_getElem? (i := 29) rfl))
theorem w_230 : (.selects RX1 yX1_begin yX1_begin : Cond) ∈ WA := wa_of (List.all_eq_true.mp wg_5_ok _ (List.mem_of_getElem? (i := 30) rfl))
theorem w_231 : (.initialized RX1 : Cond) ∈ WA := wa_of (List.all_eq_true.mp wg_5_ok _ (List.mem_of_getElem? (i := 31) rfl))
theorem w_232 : (.code yX1_thrown cX1_thrown 1 (some .int) : Cond) ∈ WA := wa_of (List.all_eq_true.mp wg_5_ok _ (List.mem_of_getElem? (i := 32) rfl))
theorem w_233 : (.fieldLink RX1 48 "RelationRowsModel" "code" "I" : Cond) ∈ WA := wa_of (List.all_eq_true.mp wg_5_ok _ (List.mem_of_getElem? (i := 33) rfl))
theorem w_234 : (.code yX1_clear cX1_clear 2 (some .int) : Cond) ∈ WA := wa_of (List.all_eq_true.mp wg_5_ok _ (List.mem_of_getElem? (i := 34) rfl))
theorem w_235 : (.code yX1_isGood cX1_isGood 2 (some .boolean) : Cond) ∈ WA := wa_of (List.all_eq_true.mp wg_5_ok _ (List.mem_of_getElem? (i := 35) rfl))
theorem w_236 : (.code yX1_isIn cX1_isIn 3 (some .boolean) : Cond) ∈ WA := wa_of (List.all_eq_true.mp wg_5_ok _ (List.mem_of_getElem? (i := 36) rfl))
theorem w_237 : (.code yX1_isThing cX1_isThing 2 (some .boolean) : Cond) ∈ WA := wa_of (List.all_eq_true.mp wg_5_ok _ (List.mem_of_getElem? (i := 37) rfl))
theorem w_238 : (.methodLink RX1 57 yX1_isIn : Cond) ∈ WA := wa_of (List.all_eq_true.mp wg_5_ok _ (List.mem_of_getElem? (i := 38) rfl))
theorem w_239 : (.static yX1_isIn : Cond) ∈ WA := wa_of (List.all_eq_true.mp wg_5_ok _ (List.mem_of_getElem? (i := 39) rfl))
def wg_6 : List Cond := [.code yX1_isRelation cX1_isRelation 2 (some .boolean), .code yX1_kind cX1_kind 4 (some .int), .methodLink RX1 61 yX1_isThing, .instanceMethod yX1_isThing, .selects RX1 yX1_isThing yX1_isThing, .methodLink RX1 65 yX1_isGood, .instanceMethod yX1_isGood, .selects RX1 yX1_isGood yX1_isGood, .code yX1_at cX1_at 3 (some .int), .code yX1_make cX1_make 6 (some .int), .methodLink RX1 68 yX1_at, .static yX1_at, .code yX1_relation cX1_relation 5 (some .int), .methodLink RX1 72 yX1_make, .instanceMethod yX1_make, .selects RX1 yX1_make yX1_make, .methodLink RX1 75 yX1_isRelation, .instanceMethod yX1_isRelation, .selects RX1 yX1_isRelation yX1_isRelation, .code yX1_condition cX1_condition 6 (some .int), .code yX1_far cX1_far 5 none, .code yX1_work cX1_work 8 none, .methodLink RX1 78 yX1_far, .instanceMethod yX1_far, .selects RX1 yX1_far yX1_far, .code yX1_learn cX1_learn 3 none, .methodLink RX1 82 yX1_work, .instanceMethod yX1_work, .selects RX1 yX1_work yX1_work, .code yX1_isOf cX1_isOf 2 (some .boolean), .code yX1_whyNot cX1_whyNot 5 (some .int), .methodLink RX1 85 yX1_isOf, .static yX1_isOf, .code yX1_put cX1_put 5 none, .code yX1_push cX1_push 4 none, .methodLink RX1 89 yX1_put, .instanceMethod yX1_put, .selects RX1 yX1_put yX1_put, .code yX1_pushFrom cX1_pushFrom 4 none, .methodLink RX1 93 yX1_push]
set_option maxRecDepth 100000 in
theorem wg_6_ok : wg_6.all (fun w => decide (w ∈ lw_tbl) && goodWord w) = true := by decide +kernel
theorem w_240 : (.code yX1_isRelation cX1_isRelation 2 (some .boolean) : Cond) ∈ WA := wa_of (List.all_eq_true.mp wg_6_ok _ (List.mem_of_getElem? (i := 0) rfl))
theorem w_241 : (.code yX1_kind cX1_kind 4 (some .int) : Cond) ∈ WA := wa_of (List.all_eq_true.mp wg_6_ok _ (List.mem_of_getElem? (i := 1) rfl))
theorem w_242 : (.methodLink RX1 61 yX1_isThing : Cond) ∈ WA := wa_of (List.all_eq_true.mp wg_6_ok _ (List.mem_of_getElem? (i := 2) rfl))
theorem w_243 : (.instanceMethod yX1_isThing : Cond) ∈ WA := wa_of (List.all_eq_true.mp wg_6_ok _ (List.mem_of_getElem? (i := 3) rfl))
theorem w_244 : (.selects RX1 yX1_isThing yX1_isThing : Cond) ∈ WA := wa_of (List.all_eq_true.mp wg_6_ok _ (List.mem_of_getElem? (i := 4) rfl))
theorem w_245 : (.methodLink RX1 65 yX1_isGood : Cond) ∈ WA := wa_of (List.all_eq_true.mp wg_6_ok _ (List.mem_of_getElem? (i := 5) rfl))
theorem w_246 : (.instanceMethod yX1_isGood : Cond) ∈ WA := wa_of (List.all_eq_true.mp wg_6_ok _ (List.mem_of_getElem? (i := 6) rfl))
theorem w_247 : (.selects RX1 yX1_isGood yX1_isGood : Cond) ∈ WA := wa_of (List.all_eq_true.mp wg_6_ok _ (List.mem_of_getElem? (i := 7) rfl))
theorem w_248 : (.code yX1_at cX1_at 3 (some .int) : Cond) ∈ WA := wa_of (List.all_eq_true.mp wg_6_ok _ (List.mem_of_getElem? (i := 8) rfl))
theorem w_249 : (.code yX1_make cX1_make 6 (some .int) : Cond) ∈ WA := wa_of (List.all_eq_true.mp wg_6_ok _ (List.mem_of_getElem? (i := 9) rfl))
theorem w_250 : (.methodLink RX1 68 yX1_at : Cond) ∈ WA := wa_of (List.all_eq_true.mp wg_6_ok _ (List.mem_of_getElem? (i := 10) rfl))
theorem w_251 : (.static yX1_at : Cond) ∈ WA := wa_of (List.all_eq_true.mp wg_6_ok _ (List.mem_of_getElem? (i := 11) rfl))
theorem w_252 : (.code yX1_relation cX1_relation 5 (some .int) : Cond) ∈ WA := wa_of (List.all_eq_true.mp wg_6_ok _ (List.mem_of_getElem? (i := 12) rfl))
theorem w_253 : (.methodLink RX1 72 yX1_make : Cond) ∈ WA := wa_of (List.all_eq_true.mp wg_6_ok _ (List.mem_of_getElem? (i := 13) rfl))
theorem w_254 : (.instanceMethod yX1_make : Cond) ∈ WA := wa_of (List.all_eq_true.mp wg_6_ok _ (List.mem_of_getElem? (i := 14) rfl))
theorem w_255 : (.selects RX1 yX1_make yX1_make : Cond) ∈ WA := wa_of (List.all_eq_true.mp wg_6_ok _ (List.mem_of_getElem? (i := 15) rfl))
theorem w_256 : (.methodLink RX1 75 yX1_isRelation : Cond) ∈ WA := wa_of (List.all_eq_true.mp wg_6_ok _ (List.mem_of_getElem? (i := 16) rfl))
theorem w_257 : (.instanceMethod yX1_isRelation : Cond) ∈ WA := wa_of (List.all_eq_true.mp wg_6_ok _ (List.mem_of_getElem? (i := 17) rfl))
theorem w_258 : (.selects RX1 yX1_isRelation yX1_isRelation : Cond) ∈ WA := wa_of (List.all_eq_true.mp wg_6_ok _ (List.mem_of_getElem? (i := 18) rfl))
theorem w_259 : (.code yX1_condition cX1_condition 6 (some .int) : Cond) ∈ WA := wa_of (List.all_eq_true.mp wg_6_ok _ (List.mem_of_getElem? (i := 19) rfl))
theorem w_260 : (.code yX1_far cX1_far 5 none : Cond) ∈ WA := wa_of (List.all_eq_true.mp wg_6_ok _ (List.mem_of_getElem? (i := 20) rfl))
theorem w_261 : (.code yX1_work cX1_work 8 none : Cond) ∈ WA := wa_of (List.all_eq_true.mp wg_6_ok _ (List.mem_of_getElem? (i := 21) rfl))
theorem w_262 : (.methodLink RX1 78 yX1_far : Cond) ∈ WA := wa_of (List.all_eq_true.mp wg_6_ok _ (List.mem_of_getElem? (i := 22) rfl))
theorem w_263 : (.instanceMethod yX1_far : Cond) ∈ WA := wa_of (List.all_eq_true.mp wg_6_ok _ (List.mem_of_getElem? (i := 23) rfl))
theorem w_264 : (.selects RX1 yX1_far yX1_far : Cond) ∈ WA := wa_of (List.all_eq_true.mp wg_6_ok _ (List.mem_of_getElem? (i := 24) rfl))
theorem w_265 : (.code yX1_learn cX1_learn 3 none : Cond) ∈ WA := wa_of (List.all_eq_true.mp wg_6_ok _ (List.mem_of_getElem? (i := 25) rfl))
theorem w_266 : (.methodLink RX1 82 yX1_work : Cond) ∈ WA := wa_of (List.all_eq_true.mp wg_6_ok _ (List.mem_of_getElem? (i := 26) rfl))
theorem w_267 : (.instanceMethod yX1_work : Cond) ∈ WA := wa_of (List.all_eq_true.mp wg_6_ok _ (List.mem_of_getElem? (i := 27) rfl))
theorem w_268 : (.selects RX1 yX1_work yX1_work : Cond) ∈ WA := wa_of (List.all_eq_true.mp wg_6_ok _ (List.mem_of_getElem? (i := 28) rfl))
theorem w_269 : (.code yX1_isOf cX1_isOf 2 (some .boolean) : Cond) ∈ WA := wa_of (List.all_eq_true.mp wg_6_ok _ (List.mem_of_getElem? (i := 29) rfl))
theorem w_270 : (.code yX1_whyNot cX1_whyNot 5 (some .int) : Cond) ∈ WA := wa_of (List.all_eq_true.mp wg_6_ok _ (List.mem_of_getElem? (i := 30) rfl))
theorem w_271 : (.methodLink RX1 85 yX1_isOf : Cond) ∈ WA := wa_of (List.all_eq_true.mp wg_6_ok _ (List.mem_of_getElem? (i := 31) rfl))
theorem w_272 : (.static yX1_isOf : Cond) ∈ WA := wa_of (List.all_eq_true.mp wg_6_ok _ (List.mem_of_getElem? (i := 32) rfl))
theorem w_273 : (.code yX1_put cX1_put 5 none : Cond) ∈ WA := wa_of (List.all_eq_true.mp wg_6_ok _ (List.mem_of_getElem? (i := 33) rfl))
theorem w_274 : (.code yX1_push cX1_push 4 none : Cond) ∈ WA := wa_of (List.all_eq_true.mp wg_6_ok _ (List.mem_of_getElem? (i := 34) rfl))
theorem w_275 : (.methodLink RX1 89 yX1_put : Cond) ∈ WA := wa_of (List.all_eq_true.mp wg_6_ok _ (List.mem_of_getElem? (i := 35) rfl))
theorem w_276 : (.instanceMethod yX1_put : Cond) ∈ WA := wa_of (List.all_eq_true.mp wg_6_ok _ (List.mem_of_getElem? (i := 36) rfl))
theorem w_277 : (.selects RX1 yX1_put yX1_put : Cond) ∈ WA := wa_of (List.all_eq_true.mp wg_6_ok _ (List.mem_of_getElem? (i := 37) rfl))
theorem w_278 : (.code yX1_pushFrom cX1_pushFrom 4 none : Cond) ∈ WA := wa_of (List.all_eq_true.mp wg_6_ok _ (List.mem_of_getElem? (i := 38) rfl))
theorem w_279 : (.methodLink RX1 93 yX1_push : Cond) ∈ WA := wa_of (List.all_eq_true.mp wg_6_ok _ (List.mem_of_getElem? (i := 39) rfl))
def wg_7 : List Cond := [.instanceMethod yX1_push, .selects RX1 yX1_push yX1_push, .code yX1_pushTo cX1_pushTo 4 none, .code yX1_join cX1_join 6 none, .methodLink RX1 97 yX1_whyNot, .instanceMethod yX1_whyNot, .selects RX1 yX1_whyNot yX1_whyNot, .methodLink RX1 100 yX1_pushFrom, .instanceMethod yX1_pushFrom, .selects RX1 yX1_pushFrom yX1_pushFrom, .methodLink RX1 104 yX1_pushTo, .instanceMethod yX1_pushTo, .selects RX1 yX1_pushTo yX1_pushTo, .methodLink RX1 107 yX1_join, .instanceMethod yX1_join, .selects RX1 yX1_join yX1_join, .code yX1_set cX1_set 5 (some .int), .code yX1_part cX1_part 4 none, .methodLink RX1 110 yX1_part, .instanceMethod yX1_part, .selects RX1 yX1_part yX1_part, .code yX1_drop cX1_drop 5 (some .boolean), .code yX1_countOf cX1_countOf 4 (some .int), .code yX1_empty cX1_empty 5 (some .int), .methodLink RX1 113 yX1_countOf, .instanceMethod yX1_countOf, .selects RX1 yX1_countOf yX1_countOf, .code yX1_pushed cX1_pushed 3 (some .int), .methodLink RX1 117 yX1_learn, .instanceMethod yX1_learn, .selects RX1 yX1_learn yX1_learn, .code yX1_has cX1_has 4 (some .boolean), .code yX1_beside cX1_beside 7 (some .int), .methodLink RX1 120 yX1_beside, .instanceMethod yX1_beside, .selects RX1 yX1_beside yX1_beside, .code yX1_besideOr cX1_besideOr 6 (some .int), .methodLink RX1 124 yX1_besideOr, .instanceMethod yX1_besideOr, .selects RX1 yX1_besideOr yX1_besideOr]
set_option maxRecDepth 100000 in
theorem wg_7_ok : wg_7.all (fun w => decide (w ∈ lw_tbl) && goodWord w) = true := by decide +kernel
theorem w_280 : (.instanceMethod yX1_push : Cond) ∈ WA := wa_of (List.all_eq_true.mp wg_7_ok _ (List.mem_of_getElem? (i := 0) rfl))
theorem w_281 : (.selects RX1 yX1_push yX1_push : Cond) ∈ WA := wa_of (List.all_eq_true.mp wg_7_ok _ (List.mem_of_getElem? (i := 1) rfl))
theorem w_282 : (.code yX1_pushTo cX1_pushTo 4 none : Cond) ∈ WA := wa_of (List.all_eq_true.mp wg_7_ok _ (List.mem_of_getElem? (i := 2) rfl))
theorem w_283 : (.code yX1_join cX1_join 6 none : Cond) ∈ WA := wa_of (List.all_eq_true.mp wg_7_ok _ (List.mem_of_getElem? (i := 3) rfl))
theorem w_284 : (.methodLink RX1 97 yX1_whyNot : Cond) ∈ WA := wa_of (List.all_eq_true.mp wg_7_ok _ (List.mem_of_getElem? (i := 4) rfl))
theorem w_285 : (.instanceMethod yX1_whyNot : Cond) ∈ WA := wa_of (List.all_eq_true.mp wg_7_ok _ (List.mem_of_getElem? (i := 5) rfl))
theorem w_286 : (.selects RX1 yX1_whyNot yX1_whyNot : Cond) ∈ WA := wa_of (List.all_eq_true.mp wg_7_ok _ (List.mem_of_getElem? (i := 6) rfl))
theorem w_287 : (.methodLink RX1 100 yX1_pushFrom : Cond) ∈ WA := wa_of (List.all_eq_true.mp wg_7_ok _ (List.mem_of_getElem? (i := 7) rfl))
theorem w_288 : (.instanceMethod yX1_pushFrom : Cond) ∈ WA := wa_of (List.all_eq_true.mp wg_7_ok _ (List.mem_of_getElem? (i := 8) rfl))
theorem w_289 : (.selects RX1 yX1_pushFrom yX1_pushFrom : Cond) ∈ WA := wa_of (List.all_eq_true.mp wg_7_ok _ (List.mem_of_getElem? (i := 9) rfl))
theorem w_290 : (.methodLink RX1 104 yX1_pushTo : Cond) ∈ WA := wa_of (List.all_eq_true.mp wg_7_ok _ (List.mem_of_getElem? (i := 10) rfl))
theorem w_291 : (.instanceMethod yX1_pushTo : Cond) ∈ WA := wa_of (List.all_eq_true.mp wg_7_ok _ (List.mem_of_getElem? (i := 11) rfl))
theorem w_292 : (.selects RX1 yX1_pushTo yX1_pushTo : Cond) ∈ WA := wa_of (List.all_eq_true.mp wg_7_ok _ (List.mem_of_getElem? (i := 12) rfl))
theorem w_293 : (.methodLink RX1 107 yX1_join : Cond) ∈ WA := wa_of (List.all_eq_true.mp wg_7_ok _ (List.mem_of_getElem? (i := 13) rfl))
theorem w_294 : (.instanceMethod yX1_join : Cond) ∈ WA := wa_of (List.all_eq_true.mp wg_7_ok _ (List.mem_of_getElem? (i := 14) rfl))
theorem w_295 : (.selects RX1 yX1_join yX1_join : Cond) ∈ WA := wa_of (List.all_eq_true.mp wg_7_ok _ (List.mem_of_getElem? (i := 15) rfl))
theorem w_296 : (.code yX1_set cX1_set 5 (some .int) : Cond) ∈ WA := wa_of (List.all_eq_true.mp wg_7_ok _ (List.mem_of_getElem? (i := 16) rfl))
theorem w_297 : (.code yX1_part cX1_part 4 none : Cond) ∈ WA := wa_of (List.all_eq_true.mp wg_7_ok _ (List.mem_of_getElem? (i := 17) rfl))
theorem w_298 : (.methodLink RX1 110 yX1_part : Cond) ∈ WA := wa_of (List.all_eq_true.mp wg_7_ok _ (List.mem_of_getElem? (i := 18) rfl))
theorem w_299 : (.instanceMethod yX1_part : Cond) ∈ WA := wa_of (List.all_eq_true.mp wg_7_ok _ (List.mem_of_getElem? (i := 19) rfl))
theorem w_300 : (.selects RX1 yX1_part yX1_part : Cond) ∈ WA := wa_of (List.all_eq_true.mp wg_7_ok _ (List.mem_of_getElem? (i := 20) rfl))
theorem w_301 : (.code yX1_drop cX1_drop 5 (some .boolean) : Cond) ∈ WA := wa_of (List.all_eq_true.mp wg_7_ok _ (List.mem_of_getElem? (i := 21) rfl))
theorem w_302 : (.code yX1_countOf cX1_countOf 4 (some .int) : Cond) ∈ WA := wa_of (List.all_eq_true.mp wg_7_ok _ (List.mem_of_getElem? (i := 22) rfl))
theorem w_303 : (.code yX1_empty cX1_empty 5 (some .int) : Cond) ∈ WA := wa_of (List.all_eq_true.mp wg_7_ok _ (List.mem_of_getElem? (i := 23) rfl))
theorem w_304 : (.methodLink RX1 113 yX1_countOf : Cond) ∈ WA := wa_of (List.all_eq_true.mp wg_7_ok _ (List.mem_of_getElem? (i := 24) rfl))
theorem w_305 : (.instanceMethod yX1_countOf : Cond) ∈ WA := wa_of (List.all_eq_true.mp wg_7_ok _ (List.mem_of_getElem? (i := 25) rfl))
theorem w_306 : (.selects RX1 yX1_countOf yX1_countOf : Cond) ∈ WA := wa_of (List.all_eq_true.mp wg_7_ok _ (List.mem_of_getElem? (i := 26) rfl))
theorem w_307 : (.code yX1_pushed cX1_pushed 3 (some .int) : Cond) ∈ WA := wa_of (List.all_eq_true.mp wg_7_ok _ (List.mem_of_getElem? (i := 27) rfl))
theorem w_308 : (.methodLink RX1 117 yX1_learn : Cond) ∈ WA := wa_of (List.all_eq_true.mp wg_7_ok _ (List.mem_of_getElem? (i := 28) rfl))
theorem w_309 : (.instanceMethod yX1_learn : Cond) ∈ WA := wa_of (List.all_eq_true.mp wg_7_ok _ (List.mem_of_getElem? (i := 29) rfl))
theorem w_310 : (.selects RX1 yX1_learn yX1_learn : Cond) ∈ WA := wa_of (List.all_eq_true.mp wg_7_ok _ (List.mem_of_getElem? (i := 30) rfl))
theorem w_311 : (.code yX1_has cX1_has 4 (some .boolean) : Cond) ∈ WA := wa_of (List.all_eq_true.mp wg_7_ok _ (List.mem_of_getElem? (i := 31) rfl))
theorem w_312 : (.code yX1_beside cX1_beside 7 (some .int) : Cond) ∈ WA := wa_of (List.all_eq_true.mp wg_7_ok _ (List.mem_of_getElem? (i := 32) rfl))
theorem w_313 : (.methodLink RX1 120 yX1_beside : Cond) ∈ WA := wa_of (List.all_eq_true.mp wg_7_ok _ (List.mem_of_getElem? (i := 33) rfl))
theorem w_314 : (.instanceMethod yX1_beside : Cond) ∈ WA := wa_of (List.all_eq_true.mp wg_7_ok _ (List.mem_of_getElem? (i := 34) rfl))
theorem w_315 : (.selects RX1 yX1_beside yX1_beside : Cond) ∈ WA := wa_of (List.all_eq_true.mp wg_7_ok _ (List.mem_of_getElem? (i := 35) rfl))
theorem w_316 : (.code yX1_besideOr cX1_besideOr 6 (some .int) : Cond) ∈ WA := wa_of (List.all_eq_true.mp wg_7_ok _ (List.mem_of_getElem? (i := 36) rfl))
theorem w_317 : (.methodLink RX1 124 yX1_besideOr : Cond) ∈ WA := wa_of (List.all_eq_true.mp wg_7_ok _ (List.mem_of_getElem? (i := 37) rfl))
theorem w_318 : (.instanceMethod yX1_besideOr : Cond) ∈ WA := wa_of (List.all_eq_true.mp wg_7_ok _ (List.mem_of_getElem? (i := 38) rfl))
theorem w_319 : (.selects RX1 yX1_besideOr yX1_besideOr : Cond) ∈ WA := wa_of (List.all_eq_true.mp wg_7_ok _ (List.mem_of_getElem? (i := 39) rfl))
def wg_8 : List Cond := [.code yX1_next cX1_next 4 (some .int), .code yX1_back cX1_back 4 (some .int), .code yX1_count cX1_count 2 (some .int), .code yX1_measure cX1_measure 6 none, .methodLink RX1 127 yX1_measure, .instanceMethod yX1_measure, .selects RX1 yX1_measure yX1_measure, .code yX1_length cX1_length 4 (some .int), .code yX1_route cX1_route 8 (some .int), .code yX1_leader cX1_leader 4 (some .int), .code yX1_differ cX1_differ 4 (some .int), .code yX1_tally cX1_tally 3 (some .int), .code yX1_of cX1_of 2 (some .int), .code yX1_told cX1_told 3 (some .int), .code yJx00060_init_a7421 cJx00060_init_a7421 2 none, .code yJ9_max_7cf53 cJ9_max_7cf53 2 (some .int), .code yJ9_min_7cf53 cJ9_min_7cf53 2 (some .int), .code yL_cell cL_cell 2 (some .int), .codeWith yL_kind cL_kind 5 (some .int) [(0, 10, 13, 13), (0, 10, 17, 15)], .classLink RL 13 "java/lang/IllegalArgumentException", .classLink RL 15 "java/lang/IllegalStateException", .methodLink RL 7 yX0_kind, .instanceMethod yX0_kind, .selects RX0 yX0_kind yX0_kind, .methodLink RL 17 yX0_relation, .instanceMethod yX0_relation, .selects RX0 yX0_relation yX0_relation, .codeWith yL_relation cL_relation 6 (some .int) [(0, 12, 15, 13), (0, 12, 19, 15)], .methodLink RL 21 yX0_condition, .instanceMethod yX0_condition, .selects RX0 yX0_condition yX0_condition, .codeWith yL_condition cL_condition 6 (some .int) [(0, 12, 15, 13), (0, 12, 19, 15)], .methodLink RL 24 yX0_set, .instanceMethod yX0_set, .selects RX0 yX0_set yX0_set, .codeWith yL_set cL_set 6 (some .int) [(0, 12, 15, 13), (0, 12, 19, 15)], .methodLink RL 27 yX0_drop, .instanceMethod yX0_drop, .selects RX0 yX0_drop yX0_drop, .codeWith yL_drop cL_drop 6 (some .int) [(0, 19, 22, 13), (0, 19, 26, 15)]]
set_option maxRecDepth 100000 in
theorem wg_8_ok : wg_8.all (fun w => decide (w ∈ lw_tbl) && goodWord w) = true := by decide +kernel
theorem w_320 : (.code yX1_next cX1_next 4 (some .int) : Cond) ∈ WA := wa_of (List.all_eq_true.mp wg_8_ok _ (List.mem_of_getElem? (i := 0) rfl))
theorem w_321 : (.code yX1_back cX1_back 4 (some .int) : Cond) ∈ WA := wa_of (List.all_eq_true.mp wg_8_ok _ (List.mem_of_getElem? (i := 1) rfl))
theorem w_322 : (.code yX1_count cX1_count 2 (some .int) : Cond) ∈ WA := wa_of (List.all_eq_true.mp wg_8_ok _ (List.mem_of_getElem? (i := 2) rfl))
theorem w_323 : (.code yX1_measure cX1_measure 6 none : Cond) ∈ WA := wa_of (List.all_eq_true.mp wg_8_ok _ (List.mem_of_getElem? (i := 3) rfl))
theorem w_324 : (.methodLink RX1 127 yX1_measure : Cond) ∈ WA := wa_of (List.all_eq_true.mp wg_8_ok _ (List.mem_of_getElem? (i := 4) rfl))
theorem w_325 : (.instanceMethod yX1_measure : Cond) ∈ WA := wa_of (List.all_eq_true.mp wg_8_ok _ (List.mem_of_getElem? (i := 5) rfl))
theorem w_326 : (.selects RX1 yX1_measure yX1_measure : Cond) ∈ WA := wa_of (List.all_eq_true.mp wg_8_ok _ (List.mem_of_getElem? (i := 6) rfl))
theorem w_327 : (.code yX1_length cX1_length 4 (some .int) : Cond) ∈ WA := wa_of (List.all_eq_true.mp wg_8_ok _ (List.mem_of_getElem? (i := 7) rfl))
theorem w_328 : (.code yX1_route cX1_route 8 (some .int) : Cond) ∈ WA := wa_of (List.all_eq_true.mp wg_8_ok _ (List.mem_of_getElem? (i := 8) rfl))
theorem w_329 : (.code yX1_leader cX1_leader 4 (some .int) : Cond) ∈ WA := wa_of (List.all_eq_true.mp wg_8_ok _ (List.mem_of_getElem? (i := 9) rfl))
theorem w_330 : (.code yX1_differ cX1_differ 4 (some .int) : Cond) ∈ WA := wa_of (List.all_eq_true.mp wg_8_ok _ (List.mem_of_getElem? (i := 10) rfl))
theorem w_331 : (.code yX1_tally cX1_tally 3 (some .int) : Cond) ∈ WA := wa_of (List.all_eq_true.mp wg_8_ok _ (List.mem_of_getElem? (i := 11) rfl))
theorem w_332 : (.code yX1_of cX1_of 2 (some .int) : Cond) ∈ WA := wa_of (List.all_eq_true.mp wg_8_ok _ (List.mem_of_getElem? (i := 12) rfl))
theorem w_333 : (.code yX1_told cX1_told 3 (some .int) : Cond) ∈ WA := wa_of (List.all_eq_true.mp wg_8_ok _ (List.mem_of_getElem? (i := 13) rfl))
theorem w_334 : (.code yJx00060_init_a7421 cJx00060_init_a7421 2 none : Cond) ∈ WA := wa_of (List.all_eq_true.mp wg_8_ok _ (List.mem_of_getElem? (i := 14) rfl))
theorem w_335 : (.code yJ9_max_7cf53 cJ9_max_7cf53 2 (some .int) : Cond) ∈ WA := wa_of (List.all_eq_true.mp wg_8_ok _ (List.mem_of_getElem? (i := 15) rfl))
theorem w_336 : (.code yJ9_min_7cf53 cJ9_min_7cf53 2 (some .int) : Cond) ∈ WA := wa_of (List.all_eq_true.mp wg_8_ok _ (List.mem_of_getElem? (i := 16) rfl))
theorem w_337 : (.code yL_cell cL_cell 2 (some .int) : Cond) ∈ WA := wa_of (List.all_eq_true.mp wg_8_ok _ (List.mem_of_getElem? (i := 17) rfl))
theorem w_338 : (.codeWith yL_kind cL_kind 5 (some .int) [(0, 10, 13, 13), (0, 10, 17, 15)] : Cond) ∈ WA := wa_of (List.all_eq_true.mp wg_8_ok _ (List.mem_of_getElem? (i := 18) rfl))
theorem w_339 : (.classLink RL 13 "java/lang/IllegalArgumentException" : Cond) ∈ WA := wa_of (List.all_eq_true.mp wg_8_ok _ (List.mem_of_getElem? (i := 19) rfl))
theorem w_340 : (.classLink RL 15 "java/lang/IllegalStateException" : Cond) ∈ WA := wa_of (List.all_eq_true.mp wg_8_ok _ (List.mem_of_getElem? (i := 20) rfl))
theorem w_341 : (.methodLink RL 7 yX0_kind : Cond) ∈ WA := wa_of (List.all_eq_true.mp wg_8_ok _ (List.mem_of_getElem? (i := 21) rfl))
theorem w_342 : (.instanceMethod yX0_kind : Cond) ∈ WA := wa_of (List.all_eq_true.mp wg_8_ok _ (List.mem_of_getElem? (i := 22) rfl))
theorem w_343 : (.selects RX0 yX0_kind yX0_kind : Cond) ∈ WA := wa_of (List.all_eq_true.mp wg_8_ok _ (List.mem_of_getElem? (i := 23) rfl))
theorem w_344 : (.methodLink RL 17 yX0_relation : Cond) ∈ WA := wa_of (List.all_eq_true.mp wg_8_ok _ (List.mem_of_getElem? (i := 24) rfl))
theorem w_345 : (.instanceMethod yX0_relation : Cond) ∈ WA := wa_of (List.all_eq_true.mp wg_8_ok _ (List.mem_of_getElem? (i := 25) rfl))
theorem w_346 : (.selects RX0 yX0_relation yX0_relation : Cond) ∈ WA := wa_of (List.all_eq_true.mp wg_8_ok _ (List.mem_of_getElem? (i := 26) rfl))
theorem w_347 : (.codeWith yL_relation cL_relation 6 (some .int) [(0, 12, 15, 13), (0, 12, 19, 15)] : Cond) ∈ WA := wa_of (List.all_eq_true.mp wg_8_ok _ (List.mem_of_getElem? (i := 27) rfl))
theorem w_348 : (.methodLink RL 21 yX0_condition : Cond) ∈ WA := wa_of (List.all_eq_true.mp wg_8_ok _ (List.mem_of_getElem? (i := 28) rfl))
theorem w_349 : (.instanceMethod yX0_condition : Cond) ∈ WA := wa_of (List.all_eq_true.mp wg_8_ok _ (List.mem_of_getElem? (i := 29) rfl))
theorem w_350 : (.selects RX0 yX0_condition yX0_condition : Cond) ∈ WA := wa_of (List.all_eq_true.mp wg_8_ok _ (List.mem_of_getElem? (i := 30) rfl))
theorem w_351 : (.codeWith yL_condition cL_condition 6 (some .int) [(0, 12, 15, 13), (0, 12, 19, 15)] : Cond) ∈ WA := wa_of (List.all_eq_true.mp wg_8_ok _ (List.mem_of_getElem? (i := 31) rfl))
theorem w_352 : (.methodLink RL 24 yX0_set : Cond) ∈ WA := wa_of (List.all_eq_true.mp wg_8_ok _ (List.mem_of_getElem? (i := 32) rfl))
theorem w_353 : (.instanceMethod yX0_set : Cond) ∈ WA := wa_of (List.all_eq_true.mp wg_8_ok _ (List.mem_of_getElem? (i := 33) rfl))
theorem w_354 : (.selects RX0 yX0_set yX0_set : Cond) ∈ WA := wa_of (List.all_eq_true.mp wg_8_ok _ (List.mem_of_getElem? (i := 34) rfl))
theorem w_355 : (.codeWith yL_set cL_set 6 (some .int) [(0, 12, 15, 13), (0, 12, 19, 15)] : Cond) ∈ WA := wa_of (List.all_eq_true.mp wg_8_ok _ (List.mem_of_getElem? (i := 35) rfl))
theorem w_356 : (.methodLink RL 27 yX0_drop : Cond) ∈ WA := wa_of (List.all_eq_true.mp wg_8_ok _ (List.mem_of_getElem? (i := 36) rfl))
theorem w_357 : (.instanceMethod yX0_drop : Cond) ∈ WA := wa_of (List.all_eq_true.mp wg_8_ok _ (List.mem_of_getElem? (i := 37) rfl))
theorem w_358 : (.selects RX0 yX0_drop yX0_drop : Cond) ∈ WA := wa_of (List.all_eq_true.mp wg_8_ok _ (List.mem_of_getElem? (i := 38) rfl))
theorem w_359 : (.codeWith yL_drop cL_drop 6 (some .int) [(0, 19, 22, 13), (0, 19, 26, 15)] : Cond) ∈ WA := wa_of (List.all_eq_true.mp wg_8_ok _ (List.mem_of_getElem? (i := 39) rfl))
def wg_9 : List Cond := [.methodLink RL 31 yX0_empty, .instanceMethod yX0_empty, .selects RX0 yX0_empty yX0_empty, .codeWith yL_empty cL_empty 4 (some .int) [(0, 9, 12, 13), (0, 9, 15, 15)], .codeWith yL_pushed cL_pushed 5 (some .int) [(0, 10, 13, 13), (0, 10, 17, 38)], .classLink RL 38 "java/util/NoSuchElementException", .methodLink RL 35 yX0_pushed, .instanceMethod yX0_pushed, .selects RX0 yX0_pushed yX0_pushed, .methodLink RL 40 yX0_has, .instanceMethod yX0_has, .selects RX0 yX0_has yX0_has, .codeWith yL_has cL_has 6 (some .int) [(0, 19, 22, 13)], .methodLink RL 43 yX0_next, .instanceMethod yX0_next, .selects RX0 yX0_next yX0_next, .codeWith yL_next cL_next 6 (some .int) [(0, 12, 15, 13), (0, 12, 19, 38)], .methodLink RL 46 yX0_back, .instanceMethod yX0_back, .selects RX0 yX0_back yX0_back, .codeWith yL_back cL_back 6 (some .int) [(0, 12, 15, 13), (0, 12, 19, 38)], .methodLink RL 49 yX0_count, .instanceMethod yX0_count, .selects RX0 yX0_count yX0_count, .codeWith yL_count cL_count 4 (some .int) [(0, 9, 12, 13)], .methodLink RL 52 yX0_length, .instanceMethod yX0_length, .selects RX0 yX0_length yX0_length, .codeWith yL_length cL_length 6 (some .int) [(0, 12, 15, 13)], .methodLink RL 55 yX0_route, .instanceMethod yX0_route, .selects RX0 yX0_route yX0_route, .codeWith yL_route cL_route 7 (some .int) [(0, 14, 17, 13), (0, 14, 21, 38)], .methodLink RL 59 yX0_leader, .instanceMethod yX0_leader, .selects RX0 yX0_leader yX0_leader, .codeWith yL_leader cL_leader 5 (some .int) [(0, 10, 13, 13), (0, 10, 17, 15)], .methodLink RL 62 yX0_differ, .instanceMethod yX0_differ, .selects RX0 yX0_differ yX0_differ]
set_option maxRecDepth 100000 in
theorem wg_9_ok : wg_9.all (fun w => decide (w ∈ lw_tbl) && goodWord w) = true := by decide +kernel
theorem w_360 : (.methodLink RL 31 yX0_empty : Cond) ∈ WA := wa_of (List.all_eq_true.mp wg_9_ok _ (List.mem_of_getElem? (i := 0) rfl))
theorem w_361 : (.instanceMethod yX0_empty : Cond) ∈ WA := wa_of (List.all_eq_true.mp wg_9_ok _ (List.mem_of_getElem? (i := 1) rfl))
theorem w_362 : (.selects RX0 yX0_empty yX0_empty : Cond) ∈ WA := wa_of (List.all_eq_true.mp wg_9_ok _ (List.mem_of_getElem? (i := 2) rfl))
theorem w_363 : (.codeWith yL_empty cL_empty 4 (some .int) [(0, 9, 12, 13), (0, 9, 15, 15)] : Cond) ∈ WA := wa_of (List.all_eq_true.mp wg_9_ok _ (List.mem_of_getElem? (i := 3) rfl))
theorem w_364 : (.codeWith yL_pushed cL_pushed 5 (some .int) [(0, 10, 13, 13), (0, 10, 17, 38)] : Cond) ∈ WA := wa_of (List.all_eq_true.mp wg_9_ok _ (List.mem_of_getElem? (i := 4) rfl))
theorem w_365 : (.classLink RL 38 "java/util/NoSuchElementException" : Cond) ∈ WA := wa_of (List.all_eq_true.mp wg_9_ok _ (List.mem_of_getElem? (i := 5) rfl))
theorem w_366 : (.methodLink RL 35 yX0_pushed : Cond) ∈ WA := wa_of (List.all_eq_true.mp wg_9_ok _ (List.mem_of_getElem? (i := 6) rfl))
theorem w_367 : (.instanceMethod yX0_pushed : Cond) ∈ WA := wa_of (List.all_eq_true.mp wg_9_ok _ (List.mem_of_getElem? (i := 7) rfl))
theorem w_368 : (.selects RX0 yX0_pushed yX0_pushed : Cond) ∈ WA := wa_of (List.all_eq_true.mp wg_9_ok _ (List.mem_of_getElem? (i := 8) rfl))
theorem w_369 : (.methodLink RL 40 yX0_has : Cond) ∈ WA := wa_of (List.all_eq_true.mp wg_9_ok _ (List.mem_of_getElem? (i := 9) rfl))
theorem w_370 : (.instanceMethod yX0_has : Cond) ∈ WA := wa_of (List.all_eq_true.mp wg_9_ok _ (List.mem_of_getElem? (i := 10) rfl))
theorem w_371 : (.selects RX0 yX0_has yX0_has : Cond) ∈ WA := wa_of (List.all_eq_true.mp wg_9_ok _ (List.mem_of_getElem? (i := 11) rfl))
theorem w_372 : (.codeWith yL_has cL_has 6 (some .int) [(0, 19, 22, 13)] : Cond) ∈ WA := wa_of (List.all_eq_true.mp wg_9_ok _ (List.mem_of_getElem? (i := 12) rfl))
theorem w_373 : (.methodLink RL 43 yX0_next : Cond) ∈ WA := wa_of (List.all_eq_true.mp wg_9_ok _ (List.mem_of_getElem? (i := 13) rfl))
theorem w_374 : (.instanceMethod yX0_next : Cond) ∈ WA := wa_of (List.all_eq_true.mp wg_9_ok _ (List.mem_of_getElem? (i := 14) rfl))
theorem w_375 : (.selects RX0 yX0_next yX0_next : Cond) ∈ WA := wa_of (List.all_eq_true.mp wg_9_ok _ (List.mem_of_getElem? (i := 15) rfl))
theorem w_376 : (.codeWith yL_next cL_next 6 (some .int) [(0, 12, 15, 13), (0, 12, 19, 38)] : Cond) ∈ WA := wa_of (List.all_eq_true.mp wg_9_ok _ (List.mem_of_getElem? (i := 16) rfl))
theorem w_377 : (.methodLink RL 46 yX0_back : Cond) ∈ WA := wa_of (List.all_eq_true.mp wg_9_ok _ (List.mem_of_getElem? (i := 17) rfl))
theorem w_378 : (.instanceMethod yX0_back : Cond) ∈ WA := wa_of (List.all_eq_true.mp wg_9_ok _ (List.mem_of_getElem? (i := 18) rfl))
theorem w_379 : (.selects RX0 yX0_back yX0_back : Cond) ∈ WA := wa_of (List.all_eq_true.mp wg_9_ok _ (List.mem_of_getElem? (i := 19) rfl))
theorem w_380 : (.codeWith yL_back cL_back 6 (some .int) [(0, 12, 15, 13), (0, 12, 19, 38)] : Cond) ∈ WA := wa_of (List.all_eq_true.mp wg_9_ok _ (List.mem_of_getElem? (i := 20) rfl))
theorem w_381 : (.methodLink RL 49 yX0_count : Cond) ∈ WA := wa_of (List.all_eq_true.mp wg_9_ok _ (List.mem_of_getElem? (i := 21) rfl))
theorem w_382 : (.instanceMethod yX0_count : Cond) ∈ WA := wa_of (List.all_eq_true.mp wg_9_ok _ (List.mem_of_getElem? (i := 22) rfl))
theorem w_383 : (.selects RX0 yX0_count yX0_count : Cond) ∈ WA := wa_of (List.all_eq_true.mp wg_9_ok _ (List.mem_of_getElem? (i := 23) rfl))
theorem w_384 : (.codeWith yL_count cL_count 4 (some .int) [(0, 9, 12, 13)] : Cond) ∈ WA := wa_of (List.all_eq_true.mp wg_9_ok _ (List.mem_of_getElem? (i := 24) rfl))
theorem w_385 : (.methodLink RL 52 yX0_length : Cond) ∈ WA := wa_of (List.all_eq_true.mp wg_9_ok _ (List.mem_of_getElem? (i := 25) rfl))
theorem w_386 : (.instanceMethod yX0_length : Cond) ∈ WA := wa_of (List.all_eq_true.mp wg_9_ok _ (List.mem_of_getElem? (i := 26) rfl))
theorem w_387 : (.selects RX0 yX0_length yX0_length : Cond) ∈ WA := wa_of (List.all_eq_true.mp wg_9_ok _ (List.mem_of_getElem? (i := 27) rfl))
theorem w_388 : (.codeWith yL_length cL_length 6 (some .int) [(0, 12, 15, 13)] : Cond) ∈ WA := wa_of (List.all_eq_true.mp wg_9_ok _ (List.mem_of_getElem? (i := 28) rfl))
theorem w_389 : (.methodLink RL 55 yX0_route : Cond) ∈ WA := wa_of (List.all_eq_true.mp wg_9_ok _ (List.mem_of_getElem? (i := 29) rfl))
theorem w_390 : (.instanceMethod yX0_route : Cond) ∈ WA := wa_of (List.all_eq_true.mp wg_9_ok _ (List.mem_of_getElem? (i := 30) rfl))
theorem w_391 : (.selects RX0 yX0_route yX0_route : Cond) ∈ WA := wa_of (List.all_eq_true.mp wg_9_ok _ (List.mem_of_getElem? (i := 31) rfl))
theorem w_392 : (.codeWith yL_route cL_route 7 (some .int) [(0, 14, 17, 13), (0, 14, 21, 38)] : Cond) ∈ WA := wa_of (List.all_eq_true.mp wg_9_ok _ (List.mem_of_getElem? (i := 32) rfl))
theorem w_393 : (.methodLink RL 59 yX0_leader : Cond) ∈ WA := wa_of (List.all_eq_true.mp wg_9_ok _ (List.mem_of_getElem? (i := 33) rfl))
theorem w_394 : (.instanceMethod yX0_leader : Cond) ∈ WA := wa_of (List.all_eq_true.mp wg_9_ok _ (List.mem_of_getElem? (i := 34) rfl))
theorem w_395 : (.selects RX0 yX0_leader yX0_leader : Cond) ∈ WA := wa_of (List.all_eq_true.mp wg_9_ok _ (List.mem_of_getElem? (i := 35) rfl))
theorem w_396 : (.codeWith yL_leader cL_leader 5 (some .int) [(0, 10, 13, 13), (0, 10, 17, 15)] : Cond) ∈ WA := wa_of (List.all_eq_true.mp wg_9_ok _ (List.mem_of_getElem? (i := 36) rfl))
theorem w_397 : (.methodLink RL 62 yX0_differ : Cond) ∈ WA := wa_of (List.all_eq_true.mp wg_9_ok _ (List.mem_of_getElem? (i := 37) rfl))
theorem w_398 : (.instanceMethod yX0_differ : Cond) ∈ WA := wa_of (List.all_eq_true.mp wg_9_ok _ (List.mem_of_getElem? (i := 38) rfl))
theorem w_399 : (.selects RX0 yX0_differ yX0_differ : Cond) ∈ WA := wa_of (List.all_eq_true.mp wg_9_ok _ (List.mem_of_getElem? (i := 39) rfl))
def wg_10 : List Cond := [.codeWith yL_differ cL_differ 5 (some .int) [(0, 10, 13, 13)], .codeWith yL_tally cL_tally 5 (some .int) [(0, 10, 13, 68)], .classLink RL 68 "java/lang/ArrayIndexOutOfBoundsException", .methodLink RL 65 yX0_tally, .instanceMethod yX0_tally, .selects RX0 yX0_tally yX0_tally, .codeWith yL_of cL_of 4 (some .int) [(0, 9, 12, 13)], .methodLink RL 70 yX0_of, .instanceMethod yX0_of, .selects RX0 yX0_of yX0_of, .codeWith yL_told cL_told 5 (some .int) [(0, 10, 13, 13)], .methodLink RL 73 yX0_told, .instanceMethod yX0_told, .selects RX0 yX0_told yX0_told, .classLink RL 8 RX0, .instantiable RX0 14, .classLink RL 85 RX1, .instantiable RX1 14, .methodLink RL 76 yL_cell, .static yL_cell, .initialized RL, .methodLink RL 82 yX0_init, .instanceMethod yX0_init, .methodLink RL 87 yX1_init, .instanceMethod yX1_init, .methodLink RL 88 yX0_clear, .instanceMethod yX0_clear, .selects RX0 yX0_clear yX0_clear, .methodLink RL 92 yX1_clear, .instanceMethod yX1_clear, .selects RX1 yX1_clear yX1_clear, .methodLink RL 93 yL_kind, .static yL_kind, .methodLink RL 96 yX1_kind, .instanceMethod yX1_kind, .selects RX1 yX1_kind yX1_kind, .methodLink RL 97 yX1_thrown, .instanceMethod yX1_thrown, .selects RX1 yX1_thrown yX1_thrown, .methodLink RL 100 yL_relation]
set_option maxRecDepth 100000 in
theorem wg_10_ok : wg_10.all (fun w => decide (w ∈ lw_tbl) && goodWord w) = true := by decide +kernel
theorem w_400 : (.codeWith yL_differ cL_differ 5 (some .int) [(0, 10, 13, 13)] : Cond) ∈ WA := wa_of (List.all_eq_true.mp wg_10_ok _ (List.mem_of_getElem? (i := 0) rfl))
theorem w_401 : (.codeWith yL_tally cL_tally 5 (some .int) [(0, 10, 13, 68)] : Cond) ∈ WA := wa_of (List.all_eq_true.mp wg_10_ok _ (List.mem_of_getElem? (i := 1) rfl))
theorem w_402 : (.classLink RL 68 "java/lang/ArrayIndexOutOfBoundsException" : Cond) ∈ WA := wa_of (List.all_eq_true.mp wg_10_ok _ (List.mem_of_getElem? (i := 2) rfl))
theorem w_403 : (.methodLink RL 65 yX0_tally : Cond) ∈ WA := wa_of (List.all_eq_true.mp wg_10_ok _ (List.mem_of_getElem? (i := 3) rfl))
theorem w_404 : (.instanceMethod yX0_tally : Cond) ∈ WA := wa_of (List.all_eq_true.mp wg_10_ok _ (List.mem_of_getElem? (i := 4) rfl))
theorem w_405 : (.selects RX0 yX0_tally yX0_tally : Cond) ∈ WA := wa_of (List.all_eq_true.mp wg_10_ok _ (List.mem_of_getElem? (i := 5) rfl))
theorem w_406 : (.codeWith yL_of cL_of 4 (some .int) [(0, 9, 12, 13)] : Cond) ∈ WA := wa_of (List.all_eq_true.mp wg_10_ok _ (List.mem_of_getElem? (i := 6) rfl))
theorem w_407 : (.methodLink RL 70 yX0_of : Cond) ∈ WA := wa_of (List.all_eq_true.mp wg_10_ok _ (List.mem_of_getElem? (i := 7) rfl))
theorem w_408 : (.instanceMethod yX0_of : Cond) ∈ WA := wa_of (List.all_eq_true.mp wg_10_ok _ (List.mem_of_getElem? (i := 8) rfl))
theorem w_409 : (.selects RX0 yX0_of yX0_of : Cond) ∈ WA := wa_of (List.all_eq_true.mp wg_10_ok _ (List.mem_of_getElem? (i := 9) rfl))
theorem w_410 : (.codeWith yL_told cL_told 5 (some .int) [(0, 10, 13, 13)] : Cond) ∈ WA := wa_of (List.all_eq_true.mp wg_10_ok _ (List.mem_of_getElem? (i := 10) rfl))
theorem w_411 : (.methodLink RL 73 yX0_told : Cond) ∈ WA := wa_of (List.all_eq_true.mp wg_10_ok _ (List.mem_of_getElem? (i := 11) rfl))
theorem w_412 : (.instanceMethod yX0_told : Cond) ∈ WA := wa_of (List.all_eq_true.mp wg_10_ok _ (List.mem_of_getElem? (i := 12) rfl))
theorem w_413 : (.selects RX0 yX0_told yX0_told : Cond) ∈ WA := wa_of (List.all_eq_true.mp wg_10_ok _ (List.mem_of_getElem? (i := 13) rfl))
theorem w_414 : (.classLink RL 8 RX0 : Cond) ∈ WA := wa_of (List.all_eq_true.mp wg_10_ok _ (List.mem_of_getElem? (i := 14) rfl))
theorem w_415 : (.instantiable RX0 14 : Cond) ∈ WA := wa_of (List.all_eq_true.mp wg_10_ok _ (List.mem_of_getElem? (i := 15) rfl))
theorem w_416 : (.classLink RL 85 RX1 : Cond) ∈ WA := wa_of (List.all_eq_true.mp wg_10_ok _ (List.mem_of_getElem? (i := 16) rfl))
theorem w_417 : (.instantiable RX1 14 : Cond) ∈ WA := wa_of (List.all_eq_true.mp wg_10_ok _ (List.mem_of_getElem? (i := 17) rfl))
theorem w_418 : (.methodLink RL 76 yL_cell : Cond) ∈ WA := wa_of (List.all_eq_true.mp wg_10_ok _ (List.mem_of_getElem? (i := 18) rfl))
theorem w_419 : (.static yL_cell : Cond) ∈ WA := wa_of (List.all_eq_true.mp wg_10_ok _ (List.mem_of_getElem? (i := 19) rfl))
theorem w_420 : (.initialized RL : Cond) ∈ WA := wa_of (List.all_eq_true.mp wg_10_ok _ (List.mem_of_getElem? (i := 20) rfl))
theorem w_421 : (.methodLink RL 82 yX0_init : Cond) ∈ WA := wa_of (List.all_eq_true.mp wg_10_ok _ (List.mem_of_getElem? (i := 21) rfl))
theorem w_422 : (.instanceMethod yX0_init : Cond) ∈ WA := wa_of (List.all_eq_true.mp wg_10_ok _ (List.mem_of_getElem? (i := 22) rfl))
theorem w_423 : (.methodLink RL 87 yX1_init : Cond) ∈ WA := wa_of (List.all_eq_true.mp wg_10_ok _ (List.mem_of_getElem? (i := 23) rfl))
theorem w_424 : (.instanceMethod yX1_init : Cond) ∈ WA := wa_of (List.all_eq_true.mp wg_10_ok _ (List.mem_of_getElem? (i := 24) rfl))
theorem w_425 : (.methodLink RL 88 yX0_clear : Cond) ∈ WA := wa_of (List.all_eq_true.mp wg_10_ok _ (List.mem_of_getElem? (i := 25) rfl))
theorem w_426 : (.instanceMethod yX0_clear : Cond) ∈ WA := wa_of (List.all_eq_true.mp wg_10_ok _ (List.mem_of_getElem? (i := 26) rfl))
theorem w_427 : (.selects RX0 yX0_clear yX0_clear : Cond) ∈ WA := wa_of (List.all_eq_true.mp wg_10_ok _ (List.mem_of_getElem? (i := 27) rfl))
theorem w_428 : (.methodLink RL 92 yX1_clear : Cond) ∈ WA := wa_of (List.all_eq_true.mp wg_10_ok _ (List.mem_of_getElem? (i := 28) rfl))
theorem w_429 : (.instanceMethod yX1_clear : Cond) ∈ WA := wa_of (List.all_eq_true.mp wg_10_ok _ (List.mem_of_getElem? (i := 29) rfl))
theorem w_430 : (.selects RX1 yX1_clear yX1_clear : Cond) ∈ WA := wa_of (List.all_eq_true.mp wg_10_ok _ (List.mem_of_getElem? (i := 30) rfl))
theorem w_431 : (.methodLink RL 93 yL_kind : Cond) ∈ WA := wa_of (List.all_eq_true.mp wg_10_ok _ (List.mem_of_getElem? (i := 31) rfl))
theorem w_432 : (.static yL_kind : Cond) ∈ WA := wa_of (List.all_eq_true.mp wg_10_ok _ (List.mem_of_getElem? (i := 32) rfl))
theorem w_433 : (.methodLink RL 96 yX1_kind : Cond) ∈ WA := wa_of (List.all_eq_true.mp wg_10_ok _ (List.mem_of_getElem? (i := 33) rfl))
theorem w_434 : (.instanceMethod yX1_kind : Cond) ∈ WA := wa_of (List.all_eq_true.mp wg_10_ok _ (List.mem_of_getElem? (i := 34) rfl))
theorem w_435 : (.selects RX1 yX1_kind yX1_kind : Cond) ∈ WA := wa_of (List.all_eq_true.mp wg_10_ok _ (List.mem_of_getElem? (i := 35) rfl))
theorem w_436 : (.methodLink RL 97 yX1_thrown : Cond) ∈ WA := wa_of (List.all_eq_true.mp wg_10_ok _ (List.mem_of_getElem? (i := 36) rfl))
theorem w_437 : (.instanceMethod yX1_thrown : Cond) ∈ WA := wa_of (List.all_eq_true.mp wg_10_ok _ (List.mem_of_getElem? (i := 37) rfl))
theorem w_438 : (.selects RX1 yX1_thrown yX1_thrown : Cond) ∈ WA := wa_of (List.all_eq_true.mp wg_10_ok _ (List.mem_of_getElem? (i := 38) rfl))
theorem w_439 : (.methodLink RL 100 yL_relation : Cond) ∈ WA := wa_of (List.all_eq_true.mp wg_10_ok _ (List.mem_of_getElem? (i := 39) rfl))
def wg_11 : List Cond := [.static yL_relation, .methodLink RL 103 yX1_relation, .instanceMethod yX1_relation, .selects RX1 yX1_relation yX1_relation, .methodLink RL 104 yL_condition, .static yL_condition, .methodLink RL 106 yX1_condition, .instanceMethod yX1_condition, .selects RX1 yX1_condition yX1_condition, .methodLink RL 107 yL_set, .static yL_set, .methodLink RL 109 yX1_set, .instanceMethod yX1_set, .selects RX1 yX1_set yX1_set, .methodLink RL 110 yL_drop, .static yL_drop, .methodLink RL 112 yX1_drop, .instanceMethod yX1_drop, .selects RX1 yX1_drop yX1_drop, .methodLink RL 113 yL_empty, .static yL_empty, .methodLink RL 116 yX1_empty, .instanceMethod yX1_empty, .selects RX1 yX1_empty yX1_empty, .methodLink RL 117 yL_pushed, .static yL_pushed, .methodLink RL 119 yX1_pushed, .instanceMethod yX1_pushed, .selects RX1 yX1_pushed yX1_pushed, .methodLink RL 120 yL_has, .static yL_has, .methodLink RL 122 yX1_has, .instanceMethod yX1_has, .selects RX1 yX1_has yX1_has, .methodLink RL 123 yL_next, .static yL_next, .methodLink RL 125 yX1_next, .instanceMethod yX1_next, .selects RX1 yX1_next yX1_next, .methodLink RL 126 yL_back]
set_option maxRecDepth 100000 in
theorem wg_11_ok : wg_11.all (fun w => decide (w ∈ lw_tbl) && goodWord w) = true := by decide +kernel
theorem w_440 : (.static yL_relation : Cond) ∈ WA := wa_of (List.all_eq_true.mp wg_11_ok _ (List.mem_of_getElem? (i := 0) rfl))
theorem w_441 : (.methodLink RL 103 yX1_relation : Cond) ∈ WA := wa_of (List.all_eq_true.mp wg_11_ok _ (List.mem_of_getElem? (i := 1) rfl))
theorem w_442 : (.instanceMethod yX1_relation : Cond) ∈ WA := wa_of (List.all_eq_true.mp wg_11_ok _ (List.mem_of_getElem? (i := 2) rfl))
theorem w_443 : (.selects RX1 yX1_relation yX1_relation : Cond) ∈ WA := wa_of (List.all_eq_true.mp wg_11_ok _ (List.mem_of_getElem? (i := 3) rfl))
theorem w_444 : (.methodLink RL 104 yL_condition : Cond) ∈ WA := wa_of (List.all_eq_true.mp wg_11_ok _ (List.mem_of_getElem? (i := 4) rfl))
theorem w_445 : (.static yL_condition : Cond) ∈ WA := wa_of (List.all_eq_true.mp wg_11_ok _ (List.mem_of_getElem? (i := 5) rfl))
theorem w_446 : (.methodLink RL 106 yX1_condition : Cond) ∈ WA := wa_of (List.all_eq_true.mp wg_11_ok _ (List.mem_of_getElem? (i := 6) rfl))
theorem w_447 : (.instanceMethod yX1_condition : Cond) ∈ WA := wa_of (List.all_eq_true.mp wg_11_ok _ (List.mem_of_getElem? (i := 7) rfl))
theorem w_448 : (.selects RX1 yX1_condition yX1_condition : Cond) ∈ WA := wa_of (List.all_eq_true.mp wg_11_ok _ (List.mem_of_getElem? (i := 8) rfl))
theorem w_449 : (.methodLink RL 107 yL_set : Cond) ∈ WA := wa_of (List.all_eq_true.mp wg_11_ok _ (List.mem_of_getElem? (i := 9) rfl))
theorem w_450 : (.static yL_set : Cond) ∈ WA := wa_of (List.all_eq_true.mp wg_11_ok _ (List.mem_of_getElem? (i := 10) rfl))
theorem w_451 : (.methodLink RL 109 yX1_set : Cond) ∈ WA := wa_of (List.all_eq_true.mp wg_11_ok _ (List.mem_of_getElem? (i := 11) rfl))
theorem w_452 : (.instanceMethod yX1_set : Cond) ∈ WA := wa_of (List.all_eq_true.mp wg_11_ok _ (List.mem_of_getElem? (i := 12) rfl))
theorem w_453 : (.selects RX1 yX1_set yX1_set : Cond) ∈ WA := wa_of (List.all_eq_true.mp wg_11_ok _ (List.mem_of_getElem? (i := 13) rfl))
theorem w_454 : (.methodLink RL 110 yL_drop : Cond) ∈ WA := wa_of (List.all_eq_true.mp wg_11_ok _ (List.mem_of_getElem? (i := 14) rfl))
theorem w_455 : (.static yL_drop : Cond) ∈ WA := wa_of (List.all_eq_true.mp wg_11_ok _ (List.mem_of_getElem? (i := 15) rfl))
theorem w_456 : (.methodLink RL 112 yX1_drop : Cond) ∈ WA := wa_of (List.all_eq_true.mp wg_11_ok _ (List.mem_of_getElem? (i := 16) rfl))
theorem w_457 : (.instanceMethod yX1_drop : Cond) ∈ WA := wa_of (List.all_eq_true.mp wg_11_ok _ (List.mem_of_getElem? (i := 17) rfl))
theorem w_458 : (.selects RX1 yX1_drop yX1_drop : Cond) ∈ WA := wa_of (List.all_eq_true.mp wg_11_ok _ (List.mem_of_getElem? (i := 18) rfl))
theorem w_459 : (.methodLink RL 113 yL_empty : Cond) ∈ WA := wa_of (List.all_eq_true.mp wg_11_ok _ (List.mem_of_getElem? (i := 19) rfl))
theorem w_460 : (.static yL_empty : Cond) ∈ WA := wa_of (List.all_eq_true.mp wg_11_ok _ (List.mem_of_getElem? (i := 20) rfl))
theorem w_461 : (.methodLink RL 116 yX1_empty : Cond) ∈ WA := wa_of (List.all_eq_true.mp wg_11_ok _ (List.mem_of_getElem? (i := 21) rfl))
theorem w_462 : (.instanceMethod yX1_empty : Cond) ∈ WA := wa_of (List.all_eq_true.mp wg_11_ok _ (List.mem_of_getElem? (i := 22) rfl))
theorem w_463 : (.selects RX1 yX1_empty yX1_empty : Cond) ∈ WA := wa_of (List.all_eq_true.mp wg_11_ok _ (List.mem_of_getElem? (i := 23) rfl))
theorem w_464 : (.methodLink RL 117 yL_pushed : Cond) ∈ WA := wa_of (List.all_eq_true.mp wg_11_ok _ (List.mem_of_getElem? (i := 24) rfl))
theorem w_465 : (.static yL_pushed : Cond) ∈ WA := wa_of (List.all_eq_true.mp wg_11_ok _ (List.mem_of_getElem? (i := 25) rfl))
theorem w_466 : (.methodLink RL 119 yX1_pushed : Cond) ∈ WA := wa_of (List.all_eq_true.mp wg_11_ok _ (List.mem_of_getElem? (i := 26) rfl))
theorem w_467 : (.instanceMethod yX1_pushed : Cond) ∈ WA := wa_of (List.all_eq_true.mp wg_11_ok _ (List.mem_of_getElem? (i := 27) rfl))
theorem w_468 : (.selects RX1 yX1_pushed yX1_pushed : Cond) ∈ WA := wa_of (List.all_eq_true.mp wg_11_ok _ (List.mem_of_getElem? (i := 28) rfl))
theorem w_469 : (.methodLink RL 120 yL_has : Cond) ∈ WA := wa_of (List.all_eq_true.mp wg_11_ok _ (List.mem_of_getElem? (i := 29) rfl))
theorem w_470 : (.static yL_has : Cond) ∈ WA := wa_of (List.all_eq_true.mp wg_11_ok _ (List.mem_of_getElem? (i := 30) rfl))
theorem w_471 : (.methodLink RL 122 yX1_has : Cond) ∈ WA := wa_of (List.all_eq_true.mp wg_11_ok _ (List.mem_of_getElem? (i := 31) rfl))
theorem w_472 : (.instanceMethod yX1_has : Cond) ∈ WA := wa_of (List.all_eq_true.mp wg_11_ok _ (List.mem_of_getElem? (i := 32) rfl))
theorem w_473 : (.selects RX1 yX1_has yX1_has : Cond) ∈ WA := wa_of (List.all_eq_true.mp wg_11_ok _ (List.mem_of_getElem? (i := 33) rfl))
theorem w_474 : (.methodLink RL 123 yL_next : Cond) ∈ WA := wa_of (List.all_eq_true.mp wg_11_ok _ (List.mem_of_getElem? (i := 34) rfl))
theorem w_475 : (.static yL_next : Cond) ∈ WA := wa_of (List.all_eq_true.mp wg_11_ok _ (List.mem_of_getElem? (i := 35) rfl))
theorem w_476 : (.methodLink RL 125 yX1_next : Cond) ∈ WA := wa_of (List.all_eq_true.mp wg_11_ok _ (List.mem_of_getElem? (i := 36) rfl))
theorem w_477 : (.instanceMethod yX1_next : Cond) ∈ WA := wa_of (List.all_eq_true.mp wg_11_ok _ (List.mem_of_getElem? (i := 37) rfl))
theorem w_478 : (.selects RX1 yX1_next yX1_next : Cond) ∈ WA := wa_of (List.all_eq_true.mp wg_11_ok _ (List.mem_of_getElem? (i := 38) rfl))
theorem w_479 : (.methodLink RL 126 yL_back : Cond) ∈ WA := wa_of (List.all_eq_true.mp wg_11_ok _ (List.mem_of_getElem? (i := 39) rfl))
def wg_12 : List Cond := [.static yL_back, .methodLink RL 128 yX1_back, .instanceMethod yX1_back, .selects RX1 yX1_back yX1_back, .methodLink RL 129 yL_count, .static yL_count, .methodLink RL 131 yX1_count, .instanceMethod yX1_count, .selects RX1 yX1_count yX1_count, .methodLink RL 132 yL_length, .static yL_length, .methodLink RL 134 yX1_length, .instanceMethod yX1_length, .selects RX1 yX1_length yX1_length, .methodLink RL 135 yL_route, .static yL_route, .methodLink RL 138 yX1_route, .instanceMethod yX1_route, .selects RX1 yX1_route yX1_route, .methodLink RL 139 yL_leader, .static yL_leader, .methodLink RL 141 yX1_leader, .instanceMethod yX1_leader, .selects RX1 yX1_leader yX1_leader, .methodLink RL 142 yL_differ, .static yL_differ, .methodLink RL 144 yX1_differ, .instanceMethod yX1_differ, .selects RX1 yX1_differ yX1_differ, .methodLink RL 145 yL_tally, .static yL_tally, .methodLink RL 147 yX1_tally, .instanceMethod yX1_tally, .selects RX1 yX1_tally yX1_tally, .methodLink RL 148 yL_of, .static yL_of, .methodLink RL 150 yX1_of, .instanceMethod yX1_of, .selects RX1 yX1_of yX1_of, .methodLink RL 151 yL_told]
set_option maxRecDepth 100000 in
theorem wg_12_ok : wg_12.all (fun w => decide (w ∈ lw_tbl) && goodWord w) = true := by decide +kernel
theorem w_480 : (.static yL_back : Cond) ∈ WA := wa_of (List.all_eq_true.mp wg_12_ok _ (List.mem_of_getElem? (i := 0) rfl))
theorem w_481 : (.methodLink RL 128 yX1_back : Cond) ∈ WA := wa_of (List.all_eq_true.mp wg_12_ok _ (List.mem_of_getElem? (i := 1) rfl))
theorem w_482 : (.instanceMethod yX1_back : Cond) ∈ WA := wa_of (List.all_eq_true.mp wg_12_ok _ (List.mem_of_getElem? (i := 2) rfl))
theorem w_483 : (.selects RX1 yX1_back yX1_back : Cond) ∈ WA := wa_of (List.all_eq_true.mp wg_12_ok _ (List.mem_of_getElem? (i := 3) rfl))
theorem w_484 : (.methodLink RL 129 yL_count : Cond) ∈ WA := wa_of (List.all_eq_true.mp wg_12_ok _ (List.mem_of_getElem? (i := 4) rfl))
theorem w_485 : (.static yL_count : Cond) ∈ WA := wa_of (List.all_eq_true.mp wg_12_ok _ (List.mem_of_getElem? (i := 5) rfl))
theorem w_486 : (.methodLink RL 131 yX1_count : Cond) ∈ WA := wa_of (List.all_eq_true.mp wg_12_ok _ (List.mem_of_getElem? (i := 6) rfl))
theorem w_487 : (.instanceMethod yX1_count : Cond) ∈ WA := wa_of (List.all_eq_true.mp wg_12_ok _ (List.mem_of_getElem? (i := 7) rfl))
theorem w_488 : (.selects RX1 yX1_count yX1_count : Cond) ∈ WA := wa_of (List.all_eq_true.mp wg_12_ok _ (List.mem_of_getElem? (i := 8) rfl))
theorem w_489 : (.methodLink RL 132 yL_length : Cond) ∈ WA := wa_of (List.all_eq_true.mp wg_12_ok _ (List.mem_of_getElem? (i := 9) rfl))
theorem w_490 : (.static yL_length : Cond) ∈ WA := wa_of (List.all_eq_true.mp wg_12_ok _ (List.mem_of_getElem? (i := 10) rfl))
theorem w_491 : (.methodLink RL 134 yX1_length : Cond) ∈ WA := wa_of (List.all_eq_true.mp wg_12_ok _ (List.mem_of_getElem? (i := 11) rfl))
theorem w_492 : (.instanceMethod yX1_length : Cond) ∈ WA := wa_of (List.all_eq_true.mp wg_12_ok _ (List.mem_of_getElem? (i := 12) rfl))
theorem w_493 : (.selects RX1 yX1_length yX1_length : Cond) ∈ WA := wa_of (List.all_eq_true.mp wg_12_ok _ (List.mem_of_getElem? (i := 13) rfl))
theorem w_494 : (.methodLink RL 135 yL_route : Cond) ∈ WA := wa_of (List.all_eq_true.mp wg_12_ok _ (List.mem_of_getElem? (i := 14) rfl))
theorem w_495 : (.static yL_route : Cond) ∈ WA := wa_of (List.all_eq_true.mp wg_12_ok _ (List.mem_of_getElem? (i := 15) rfl))
theorem w_496 : (.methodLink RL 138 yX1_route : Cond) ∈ WA := wa_of (List.all_eq_true.mp wg_12_ok _ (List.mem_of_getElem? (i := 16) rfl))
theorem w_497 : (.instanceMethod yX1_route : Cond) ∈ WA := wa_of (List.all_eq_true.mp wg_12_ok _ (List.mem_of_getElem? (i := 17) rfl))
theorem w_498 : (.selects RX1 yX1_route yX1_route : Cond) ∈ WA := wa_of (List.all_eq_true.mp wg_12_ok _ (List.mem_of_getElem? (i := 18) rfl))
theorem w_499 : (.methodLink RL 139 yL_leader : Cond) ∈ WA := wa_of (List.all_eq_true.mp wg_12_ok _ (List.mem_of_getElem? (i := 19) rfl))
theorem w_500 : (.static yL_leader : Cond) ∈ WA := wa_of (List.all_eq_true.mp wg_12_ok _ (List.mem_of_getElem? (i := 20) rfl))
theorem w_501 : (.methodLink RL 141 yX1_leader : Cond) ∈ WA := wa_of (List.all_eq_true.mp wg_12_ok _ (List.mem_of_getElem? (i := 21) rfl))
theorem w_502 : (.instanceMethod yX1_leader : Cond) ∈ WA := wa_of (List.all_eq_true.mp wg_12_ok _ (List.mem_of_getElem? (i := 22) rfl))
theorem w_503 : (.selects RX1 yX1_leader yX1_leader : Cond) ∈ WA := wa_of (List.all_eq_true.mp wg_12_ok _ (List.mem_of_getElem? (i := 23) rfl))
theorem w_504 : (.methodLink RL 142 yL_differ : Cond) ∈ WA := wa_of (List.all_eq_true.mp wg_12_ok _ (List.mem_of_getElem? (i := 24) rfl))
theorem w_505 : (.static yL_differ : Cond) ∈ WA := wa_of (List.all_eq_true.mp wg_12_ok _ (List.mem_of_getElem? (i := 25) rfl))
theorem w_506 : (.methodLink RL 144 yX1_differ : Cond) ∈ WA := wa_of (List.all_eq_true.mp wg_12_ok _ (List.mem_of_getElem? (i := 26) rfl))
theorem w_507 : (.instanceMethod yX1_differ : Cond) ∈ WA := wa_of (List.all_eq_true.mp wg_12_ok _ (List.mem_of_getElem? (i := 27) rfl))
theorem w_508 : (.selects RX1 yX1_differ yX1_differ : Cond) ∈ WA := wa_of (List.all_eq_true.mp wg_12_ok _ (List.mem_of_getElem? (i := 28) rfl))
theorem w_509 : (.methodLink RL 145 yL_tally : Cond) ∈ WA := wa_of (List.all_eq_true.mp wg_12_ok _ (List.mem_of_getElem? (i := 29) rfl))
theorem w_510 : (.static yL_tally : Cond) ∈ WA := wa_of (List.all_eq_true.mp wg_12_ok _ (List.mem_of_getElem? (i := 30) rfl))
theorem w_511 : (.methodLink RL 147 yX1_tally : Cond) ∈ WA := wa_of (List.all_eq_true.mp wg_12_ok _ (List.mem_of_getElem? (i := 31) rfl))
theorem w_512 : (.instanceMethod yX1_tally : Cond) ∈ WA := wa_of (List.all_eq_true.mp wg_12_ok _ (List.mem_of_getElem? (i := 32) rfl))
theorem w_513 : (.selects RX1 yX1_tally yX1_tally : Cond) ∈ WA := wa_of (List.all_eq_true.mp wg_12_ok _ (List.mem_of_getElem? (i := 33) rfl))
theorem w_514 : (.methodLink RL 148 yL_of : Cond) ∈ WA := wa_of (List.all_eq_true.mp wg_12_ok _ (List.mem_of_getElem? (i := 34) rfl))
theorem w_515 : (.static yL_of : Cond) ∈ WA := wa_of (List.all_eq_true.mp wg_12_ok _ (List.mem_of_getElem? (i := 35) rfl))
theorem w_516 : (.methodLink RL 150 yX1_of : Cond) ∈ WA := wa_of (List.all_eq_true.mp wg_12_ok _ (List.mem_of_getElem? (i := 36) rfl))
theorem w_517 : (.instanceMethod yX1_of : Cond) ∈ WA := wa_of (List.all_eq_true.mp wg_12_ok _ (List.mem_of_getElem? (i := 37) rfl))
theorem w_518 : (.selects RX1 yX1_of yX1_of : Cond) ∈ WA := wa_of (List.all_eq_true.mp wg_12_ok _ (List.mem_of_getElem? (i := 38) rfl))
theorem w_519 : (.methodLink RL 151 yL_told : Cond) ∈ WA := wa_of (List.all_eq_true.mp wg_12_ok _ (List.mem_of_getElem? (i := 39) rfl))
def wg_13 : List Cond := [.static yL_told, .methodLink RL 153 yX1_told, .instanceMethod yX1_told, .selects RX1 yX1_told yX1_told]
set_option maxRecDepth 100000 in
theorem wg_13_ok : wg_13.all (fun w => decide (w ∈ lw_tbl) && goodWord w) = true := by decide +kernel
theorem w_520 : (.static yL_told : Cond) ∈ WA := wa_of (List.all_eq_true.mp wg_13_ok _ (List.mem_of_getElem? (i := 0) rfl))
theorem w_521 : (.methodLink RL 153 yX1_told : Cond) ∈ WA := wa_of (List.all_eq_true.mp wg_13_ok _ (List.mem_of_getElem? (i := 1) rfl))
theorem w_522 : (.instanceMethod yX1_told : Cond) ∈ WA := wa_of (List.all_eq_true.mp wg_13_ok _ (List.mem_of_getElem? (i := 2) rfl))
theorem w_523 : (.selects RX1 yX1_told yX1_told : Cond) ∈ WA := wa_of (List.all_eq_true.mp wg_13_ok _ (List.mem_of_getElem? (i := 3) rfl))
theorem inX0 : ∀ w ∈ wsX00, w ∈ WA := fun w h => wa_of (List.all_eq_true.mp (show wsX00.all (fun w => decide (w ∈ lw_tbl) && goodWord w) = true by decide +kernel) w h)
theorem inX1 : ∀ w ∈ wsX10, w ∈ WA := fun w h => wa_of (List.all_eq_true.mp (show wsX10.all (fun w => decide (w ∈ lw_tbl) && goodWord w) = true by decide +kernel) w h)
theorem xw_iae : ∀ w ∈ (vx_atS RX0 79 "java/lang/IllegalArgumentException" ["java/lang/RuntimeException", "java/lang/Exception"]).filter goodWord, w ∈ WA := fun w h => wa_of (List.all_eq_true.mp (show ((vx_atS RX0 79 "java/lang/IllegalArgumentException" ["java/lang/RuntimeException", "java/lang/Exception"]).filter goodWord).all (fun w => decide (w ∈ lw_tbl) && goodWord w) = true by decide +kernel) w h)
theorem xw_ise : ∀ w ∈ (vx_atS RX0 86 "java/lang/IllegalStateException" ["java/lang/RuntimeException", "java/lang/Exception"]).filter goodWord, w ∈ WA := fun w h => wa_of (List.all_eq_true.mp (show ((vx_atS RX0 86 "java/lang/IllegalStateException" ["java/lang/RuntimeException", "java/lang/Exception"]).filter goodWord).all (fun w => decide (w ∈ lw_tbl) && goodWord w) = true by decide +kernel) w h)
end
section
/-! A world of one object at loc 0 and N arrays at loc 1 .. loc N -/
def ZH (loc : Nat → Nat) (N : Nat) (cC : ClassId) (nf : Nat) (iS : Nat → Nat) (fv : Nat → Value) (cA : Nat → ClassId) (ln : Nat → Nat) (cv : Nat → Nat → Value) (H : Heap) : Prop :=
  t_OB (loc 0) cC nf iS H fv ∧ ∀ i, i < N → H[loc (i + 1)]? = some (arrV (cA i) (ln i) (cv i))
def ZJ (loc : Nat → Nat) (N : Nat) : Prop := ∀ i j, i < N + 1 → j < N + 1 → loc i = loc j → i = j
def ZA (loc : Nat → Nat) (N : Nat) : Nat → Prop := fun q => ∃ i, i < N + 1 ∧ q = loc i
def up2 {α : Type} (f : Nat → Nat → α) (i j : Nat) (v : α) : Nat → Nat → α := fun a b => if a = i ∧ b = j then v else f a b
theorem arrV_congr (cA : ClassId) {n : Nat} {f g : Nat → Value} (h : ∀ j, j < n → f j = g j) : arrV cA n f = arrV cA n g := by
  unfold arrV
  congr 1
  exact congrArg Array.ofFn (funext fun j => h j.val j.isLt)
theorem ZH.to {loc : Nat → Nat} {N nf : Nat} {cC : ClassId} {iS : Nat → Nat} {fv fv' : Nat → Value} {cA : Nat → ClassId} {ln : Nat → Nat} {cv cv' : Nat → Nat → Value} {H : Heap} (h : ZH loc N cC nf iS fv cA ln cv H) (hf : ∀ k, k < nf → fv k = fv' k) (hc : ∀ i j, i < N → j < ln i → cv i j = cv' i j) : ZH loc N cC nf iS fv' cA ln cv' H :=
  ⟨t_OB.to h.1 hf, fun i hi => (h.2 i hi).trans (congrArg some (arrV_congr _ (fun j hj => hc i j hi hj)))⟩
theorem ZH.kept {loc : Nat → Nat} {N nf : Nat} {cC : ClassId} {iS : Nat → Nat} {fv : Nat → Value} {cA : Nat → ClassId} {ln : Nat → Nat} {cv : Nat → Nat → Value} {H H1 : Heap} (h : ZH loc N cC nf iS fv cA ln cv H) (hk : ∀ i, i < N + 1 → H1[loc i]? = H[loc i]?) : ZH loc N cC nf iS fv cA ln cv H1 :=
  ⟨h.1.kept (hk 0 (by omega)), fun i hi => (hk (i + 1) (by omega)).trans (h.2 i hi)⟩
theorem ZH.st {loc : Nat → Nat} {N nf : Nat} {cC : ClassId} {iS : Nat → Nat} {fv : Nat → Value} {cA : Nat → ClassId} {ln : Nat → Nat} {cv : Nat → Nat → Value} {H H1 : Heap} (h : ZH loc N cC nf iS fv cA ln cv H) (hJ : ZJ loc N) {i j : Nat} (hi : i < N) {v : Value}
    (e1 : H1[loc (i + 1)]? = some ((arrV (cA i) (ln i) (cv i)).setSlot j v)) (oq : ∀ q : Nat, q ≠ loc (i + 1) → H1[q]? = H[q]?) : ZH loc N cC nf iS fv cA ln (up2 cv i j v) H1 := by
  refine ⟨h.1.kept (oq _ fun e => absurd (hJ 0 (i + 1) (by omega) (by omega) e) (by omega)), fun k hk => ?_⟩
  by_cases hki : k = i
  · subst hki
    rw [e1, arrV_store]
    refine congrArg some (congrArg (arrV _ _) (funext fun b => ?_))
    by_cases hb : b = j
    · simp [updV, up2, hb]
    · simp [updV, up2, hb]
  · rw [oq _ (fun e => hki (by have := hJ (k + 1) (i + 1) (by omega) (by omega) e; omega)), h.2 k hk]
    refine congrArg some (congrArg (arrV _ _) (funext fun b => ?_))
    simp [up2, hki]
theorem z_apart {s : State} {args : Array Value} {own : String} {T : u_T} {nf : Nat} {cC : ClassId} {iS : Nat → Nat} (hts : ∀ w ∈ WA, w.before args s = true) (hin : ∀ w ∈ u_ws own T nf, w ∈ WA) (ty : Nat → FieldType) (hty : ∀ k, k < nf → parseFieldDescriptor (T k).2.2.1 = some (ty k)) (hnm : ∀ a, a < nf → ∀ b, b < nf → a ≠ b → (T a).2.1 ≠ (T b).2.1) (hK : u_Kn s own T nf cC iS) : ∀ x y, x < nf → y < nf → x ≠ y → iS x ≠ iS y := by
  intro x y hx hy hne
  obtain ⟨hS, -⟩ := hK
  obtain ⟨_, _, _, fa, hia, ea⟩ := hS x hx
  obtain ⟨_, _, _, fb, hib, eb⟩ := hS y hy
  rw [← ea, ← eb]
  refine u_apart (u_lays hts hin hx) (u_lays hts hin hy) hia hib ?_
  rw [(State.fieldFound?_type hia (hty x hx)).1, (State.fieldFound?_type hib (hty y hy)).1]
  exact hnm x hx y hy hne
section ZW
variable {p : Program} {l : Launch} {e : Env} {R : Room} {s : State} {m : MethodId} {args : Array Value} {below : List Frame} {meth : Method} {c : Code} {H : Heap} {locs : List Loc} {cells slots : Nat} {Q : State → Prop}
variable {cc : ByteArray} {pc nL : Nat} {ls : Array Slot} {rest : List Value} {loc : Nat → Nat} {N nf : Nat} {cC : ClassId} {iS : Nat → Nat} {fv : Nat → Value} {cA : Nat → ClassId} {ln : Nat → Nat} {cv : Nat → Nat → Value} {own : String} {T : u_T}
theorem z_get (S : CallFix p m c cc nL s args WA own) (hin : ∀ w ∈ u_ws own T nf, w ∈ WA) (hKn : u_Kn s own T nf cC iS) (hH : ZH loc N cC nf iS fv cA ln cv H) (k : Nat) (hk : k < nf) {index : Nat} (hlink : Cond.fieldLink own index (T k).1 (T k).2.1 (T k).2.2.1 ∈ WA) {v : Value} (hv : fv k = v) (hdg : decode cc pc = .ok (.getfield index, 3))
    (kk : W p l e R s m args below meth c H locs cells slots Q (F0 m (pc + 3) ls (v :: rest))) : W p l e R s m args below meth c H locs cells slots Q (F0 m pc ls (.ref (loc 0) :: rest)) := by
  obtain ⟨hx, hb, -, hown, hts⟩ := S
  obtain ⟨cell, q1, q2, q3, q4⟩ := hH.1
  obtain ⟨hS, hfc, kC, hkC, hkind⟩ := hKn
  obtain ⟨cf, kf, fi, f, hi, hsl⟩ := hS k hk
  refine W.getf hx hb hown (hts _ hlink) hi (u_facts hfc hkC (u_lays hts hin hk) hi).1 q1 (by rw [q3]; exact fun h => by cases h) (v := v) ?_ rfl rfl hdg kk
  rw [hsl, q4 k hk, hv]
theorem z_put (S : CallFix p m c cc nL s args WA own) (hin : ∀ w ∈ u_ws own T nf, w ∈ WA) (ty0 : Nat → FieldType) (hty : ∀ k, k < nf → parseFieldDescriptor (T k).2.2.1 = some (ty0 k)) (hnm : ∀ a, a < nf → ∀ b, b < nf → a ≠ b → (T a).2.1 ≠ (T b).2.1) (hKn : u_Kn s own T nf cC iS) (hJ : ZJ loc N) (hH : ZH loc N cC nf iS fv cA ln cv H) (hS0 : va_S (ZA loc N) s.heap H locs) (k : Nat) (hk : k < nf) {index : Nat} (hlink : Cond.fieldLink own index (T k).1 (T k).2.1 (T k).2.2.1 ∈ WA) (hfin : (T k).2.2.2 = false) {v : Value} (hn : narrow (ty0 k) v = v) (hfit : fits (ty0 k) v = true) (hdg : decode cc pc = .ok (.putfield index, 3))
    (kk : ∀ (H1 : Heap) (locs1 : List Loc), ZH loc N cC nf iS (updV fv k v) cA ln cv H1 → va_S (ZA loc N) s.heap H1 locs1 → W p l e R s m args below meth c H1 locs1 cells slots Q (F0 m (pc + 3) ls rest)) : W p l e R s m args below meth c H locs cells slots Q (F0 m pc ls (v :: .ref (loc 0) :: rest)) := by
  obtain ⟨hx, hb, -, hown, hts⟩ := S
  have hap := z_apart hts hin ty0 hty hnm hKn
  obtain ⟨cell, q1, q2, q3, q4⟩ := hH.1
  obtain ⟨hS, hfc, kC, hkC, hkind⟩ := hKn
  obtain ⟨cf, kf, fi, f, hi, hsl⟩ := hS k hk
  have hlay := hts _ (hin _ (u_in_lay hk))
  unfold u_lay at hlay
  rw [if_neg (by rw [hfin]; decide)] at hlay
  have hst := (u_facts hfc hkC (u_lays hts hin hk) hi).1
  have h6 := u_store hfc hkC hkind hlay hi (hty k hk) hn hfit
  refine W.putK hx hb (f := f) ⟨hown, hts _ hlink, ⟨_, _, _, hi⟩, hst⟩ (by rw [q2]; exact h6) q1 q3 (by rw [hsl]; exact k2_hasslot (q4 k hk)) rfl rfl hdg fun H' e1 e2 e3 => ?_
  rw [hsl] at e1 ⊢
  refine kk H' _ ⟨⟨_, e1, q2, q3, t_set q4 hap hk v⟩, fun i hi => ?_⟩ (hS0.put e2 e3 ⟨0, by omega, rfl⟩)
  rw [e3 _ (fun e => absurd (hJ (i + 1) 0 (by omega) (by omega) e) (by omega))]
  exact hH.2 i hi
theorem z_in {i : Nat} {f : Nat → Value} {c0 : ClassId} {n : Nat} {j : Nat} (hj : j < n) (hn : n < 2 ^ 31) : ¬ (nI j < 0 ∨ (arrV c0 n f).slots.size ≤ (nI j).toNatClampNeg) := by
  rw [arrV_size]
  exact nI_in hj hn
theorem z_rd {f : Nat → Value} {c0 : ClassId} {n : Nat} {j : Nat} (hj : j < n) (hn : n < 2 ^ 31) : (arrV c0 n f).slots[(nI j).toNatClampNeg]? = some (f j) := by
  rw [nI_clamp (by omega), arrV_read _ _ hj]
theorem z_ild (S : CallFix p m c cc nL s args WA own) (hH : ZH loc N cC nf iS fv cA ln cv H) (i : Nat) (hi : i < N) (hA : ArrOfT s (cA i) .int) {j : Nat} (hj : j < ln i) (hn : ln i < 2 ^ 31) {v : Value} (hv : cv i j = v) (hdg : decode cc pc = .ok (.iaload, 1))
    (kk : W p l e R s m args below meth c H locs cells slots Q (F0 m (pc + 1) ls (v :: rest))) : W p l e R s m args below meth c H locs cells slots Q (F0 m pc ls (.int (nI j) :: .ref (loc (i + 1)) :: rest)) :=
  W.iald (v := v) S.1 S.2.1 (hH.2 i hi) (hA _ _) (fun q => by cases q) (z_in (i := i) hj hn) (by rw [z_rd hj hn, hv]) rfl rfl hdg kk
theorem z_lld (S : CallFix p m c cc nL s args WA own) (hH : ZH loc N cC nf iS fv cA ln cv H) (i : Nat) (hi : i < N) (hA : ArrOfT s (cA i) .long) {j : Nat} (hj : j < ln i) (hn : ln i < 2 ^ 31) {v : Value} (hv : cv i j = v) (hdg : decode cc pc = .ok (.laload, 1))
    (kk : W p l e R s m args below meth c H locs cells slots Q (F0 m (pc + 1) ls (v :: rest))) : W p l e R s m args below meth c H locs cells slots Q (F0 m pc ls (.int (nI j) :: .ref (loc (i + 1)) :: rest)) :=
  W.lald (v := v) S.1 S.2.1 (hH.2 i hi) (hA _ _) (fun q => by cases q) (z_in (i := i) hj hn) (by rw [z_rd hj hn, hv]) rfl rfl hdg kk
theorem z_zld (S : CallFix p m c cc nL s args WA own) (hH : ZH loc N cC nf iS fv cA ln cv H) (i : Nat) (hi : i < N) (hA : ArrOfT s (cA i) .boolean) {j : Nat} (hj : j < ln i) (hn : ln i < 2 ^ 31) {v : Value} (hv : cv i j = v) (hdg : decode cc pc = .ok (.baload, 1))
    (kk : W p l e R s m args below meth c H locs cells slots Q (F0 m (pc + 1) ls (v :: rest))) : W p l e R s m args below meth c H locs cells slots Q (F0 m pc ls (.int (nI j) :: .ref (loc (i + 1)) :: rest)) :=
  W.zald (v := v) S.1 S.2.1 (hH.2 i hi) (hA _ _) (fun q => by cases q) (z_in (i := i) hj hn) (by rw [z_rd hj hn, hv]) rfl rfl hdg kk
theorem z_ald (S : CallFix p m c cc nL s args WA own) (hH : ZH loc N cC nf iS fv cA ln cv H) (i : Nat) (hi : i < N) {ty : FieldType} (hty : ty.isReference = true) (hA : ArrOfT s (cA i) ty) {j : Nat} (hj : j < ln i) (hn : ln i < 2 ^ 31) {v : Value} (hv : cv i j = v) (hdg : decode cc pc = .ok (.aaload, 1))
    (kk : W p l e R s m args below meth c H locs cells slots Q (F0 m (pc + 1) ls (v :: rest))) : W p l e R s m args below meth c H locs cells slots Q (F0 m pc ls (.int (nI j) :: .ref (loc (i + 1)) :: rest)) :=
  W.aald (v := v) S.1 S.2.1 (hH.2 i hi) (hA _ _) hty (fun q => by cases q) (z_in (i := i) hj hn) (by rw [z_rd hj hn, hv]) rfl rfl hdg kk
theorem z_ist (S : CallFix p m c cc nL s args WA own) (hJ : ZJ loc N) (hH : ZH loc N cC nf iS fv cA ln cv H) (hS0 : va_S (ZA loc N) s.heap H locs) (i : Nat) (hi : i < N) (hA : ArrOfT s (cA i) .int) {j : Nat} (hj : j < ln i) (hn : ln i < 2 ^ 31) {x : Int32} (hdg : decode cc pc = .ok (.iastore, 1))
    (kk : ∀ (H1 : Heap) (locs1 : List Loc), ZH loc N cC nf iS fv cA ln (up2 cv i j (.int x)) H1 → va_S (ZA loc N) s.heap H1 locs1 → W p l e R s m args below meth c H1 locs1 cells slots Q (F0 m (pc + 1) ls rest)) : W p l e R s m args below meth c H locs cells slots Q (F0 m pc ls (.int x :: .int (nI j) :: .ref (loc (i + 1)) :: rest)) := by
  refine W.iast S.1 S.2.1 (hH.2 i hi) (hA _ _) (fun q => by cases q) (z_in (i := i) hj hn) rfl rfl hdg fun H1 e1 z oq => ?_
  rw [nI_clamp (by omega)] at e1
  exact kk H1 _ (hH.st hJ hi e1 oq) (hS0.put z oq ⟨i + 1, by omega, rfl⟩)
theorem z_lst (S : CallFix p m c cc nL s args WA own) (hJ : ZJ loc N) (hH : ZH loc N cC nf iS fv cA ln cv H) (hS0 : va_S (ZA loc N) s.heap H locs) (i : Nat) (hi : i < N) (hA : ArrOfT s (cA i) .long) {j : Nat} (hj : j < ln i) (hn : ln i < 2 ^ 31) {x : Int64} (hdg : decode cc pc = .ok (.lastore, 1))
    (kk : ∀ (H1 : Heap) (locs1 : List Loc), ZH loc N cC nf iS fv cA ln (up2 cv i j (.long x)) H1 → va_S (ZA loc N) s.heap H1 locs1 → W p l e R s m args below meth c H1 locs1 cells slots Q (F0 m (pc + 1) ls rest)) : W p l e R s m args below meth c H locs cells slots Q (F0 m pc ls (.long x :: .int (nI j) :: .ref (loc (i + 1)) :: rest)) := by
  refine W.last S.1 S.2.1 (hH.2 i hi) (hA _ _) (fun q => by cases q) (z_in (i := i) hj hn) rfl rfl hdg fun H1 e1 z oq => ?_
  rw [nI_clamp (by omega)] at e1
  exact kk H1 _ (hH.st hJ hi e1 oq) (hS0.put z oq ⟨i + 1, by omega, rfl⟩)
def bI (b : Bool) : Int32 := if b then 1 else 0
theorem bI_nar (b : Bool) : narrow .boolean (.int (bI b)) = .int (bI b) := by cases b <;> rfl
theorem bI_0 {b : Bool} : bI b = 0 ↔ b = false := by cases b <;> simp [bI]
theorem bI_n0 {b : Bool} : ¬ bI b = 0 ↔ b = true := by cases b <;> simp [bI]
theorem z_zst (S : CallFix p m c cc nL s args WA own) (hJ : ZJ loc N) (hH : ZH loc N cC nf iS fv cA ln cv H) (hS0 : va_S (ZA loc N) s.heap H locs) (i : Nat) (hi : i < N) (hA : ArrOfT s (cA i) .boolean) {j : Nat} (hj : j < ln i) (hn : ln i < 2 ^ 31) {b : Bool} {x : Int32} (hxb : x = bI b) (hdg : decode cc pc = .ok (.bastore, 1))
    (kk : ∀ (H1 : Heap) (locs1 : List Loc), ZH loc N cC nf iS fv cA ln (up2 cv i j (.int (bI b))) H1 → va_S (ZA loc N) s.heap H1 locs1 → W p l e R s m args below meth c H1 locs1 cells slots Q (F0 m (pc + 1) ls rest)) : W p l e R s m args below meth c H locs cells slots Q (F0 m pc ls (.int x :: .int (nI j) :: .ref (loc (i + 1)) :: rest)) := by
  subst hxb
  refine W.zast S.1 S.2.1 (hH.2 i hi) (hA _ _) (fun q => by cases q) (z_in (i := i) hj hn) rfl rfl hdg fun H1 e1 z oq => ?_
  rw [nI_clamp (by omega), bI_nar] at e1
  exact kk H1 _ (hH.st hJ hi e1 oq) (hS0.put z oq ⟨i + 1, by omega, rfl⟩)
end ZW
end
section
/-! objects and their calls -/
def EvOk (A : Nat → Prop) (Ev : State → Heap → Prop) : Prop :=
  (∀ (s U : State) (H : Heap) (locs : List Loc), Ev s s.heap → U.heap = H → s.WarmedH U.vm → va_S A s.heap H locs → Ev U U.heap) ∧ (∀ (U : State) (g : JFrame) (mk : MethodId) (a : Array Value), Ev U U.heap → Ev (U.calling g mk a) (U.calling g mk a).heap)
def OI {σ : Type} (C : String) (b : Nat) (A : Nat → Prop) (Hp : σ → Heap → Prop) (Ev : State → Heap → Prop) : Prop :=
  EvOk A Ev ∧ ∀ (s : State) (S : σ) (H : Heap), Ev s s.heap → Hp S H → ∃ cellB : Cell, H[b]? = some cellB ∧ cellB.vm.isStatics = false ∧ s.vm.findClass C = some cellB.cls
def Cn {σ : Type} (A : Nat → Prop) (Hp : σ → Heap → Prop) (Ev : State → Heap → Prop) (S : σ) (s : State) (H : Heap) (locs : List Loc) : Prop := Ev s s.heap ∧ Hp S H ∧ va_S A s.heap H locs
def PcO {σ : Type} (Hp : σ → Heap → Prop) (Ev : State → Heap → Prop) (S : σ) (av : List Value) : Array Value → State → Prop := va_Pc av (fun U => Hp S U.heap ∧ Ev U U.heap)
abbrev wsM (y : MethodName) (cc : ByteArray) (maxL : Nat) (ret : Option FieldType) : List Cond := .code y cc maxL ret :: WA
def VW (own : String) (idx : Nat) (y : MethodName) (bytes : ByteArray) (maxL : Nat) (ret : Option FieldType) (n : Nat) : Prop :=
  (Cond.methodLink own idx y ∈ WA ∧ Cond.instanceMethod y ∈ WA ∧ Cond.selects y.cls y y ∈ WA ∧ Cond.initialized y.cls ∈ WA ∧ Cond.code y bytes maxL ret ∈ WA) ∧ (y.cls ≠ "java/lang/invoke/MethodHandle" ∧ y.cls ≠ "java/lang/invoke/VarHandle" ∧ (parseMethodDescriptor y.desc).map (fun d => d.parameters.length) = some n)
def SW (own : String) (idx : Nat) (y : MethodName) (bytes : ByteArray) (maxL : Nat) (ret : Option FieldType) (n : Nat) : Prop :=
  (Cond.methodLink own idx y ∈ WA ∧ Cond.static y ∈ WA ∧ Cond.initialized y.cls ∈ WA ∧ Cond.code y bytes maxL ret ∈ WA) ∧ (y.cls ≠ "java/lang/invoke/MethodHandle" ∧ y.cls ≠ "java/lang/invoke/VarHandle" ∧ (parseMethodDescriptor y.desc).map (fun d => d.parameters.length) = some n)
theorem wa_gi {w : Cond} (h : w ∈ WA) : w ∈ WA ∧ ((w.onTables && w.keeps) = true ∨ ∃ ty, w = .arrayClass ty) := ⟨h, good_of_word (wa_good h)⟩
theorem wsM_good {y : MethodName} {bytes : ByteArray} {maxL : Nat} {ret : Option FieldType} (h : Cond.code y bytes maxL ret ∈ WA) : GoodIn WA (wsM y bytes maxL ret) := fun w hw => (List.mem_cons.mp hw).elim (fun e => by rw [e]; exact wa_gi h) wa_gi
theorem vw_good {own : String} {idx : Nat} {y : MethodName} {bytes : ByteArray} {maxL : Nat} {ret : Option FieldType} {n : Nat} (h : VW own idx y bytes maxL ret n) : GoodIn WA (wsV own idx y.cls y (wsM y bytes maxL ret)) := by
  obtain ⟨⟨h1, h2, h3, h4, h5⟩, -⟩ := h
  intro w hw
  unfold wsV at hw
  rcases List.mem_append.mp hw with q | q
  · simp only [List.mem_cons, List.not_mem_nil, or_false] at q
    rcases q with rfl | rfl | rfl | rfl
    · exact wa_gi h1
    · exact wa_gi h2
    · exact wa_gi h3
    · exact wa_gi h4
  · exact wsM_good h5 w q
theorem sw_good {own : String} {idx : Nat} {y : MethodName} {bytes : ByteArray} {maxL : Nat} {ret : Option FieldType} {n : Nat} (h : SW own idx y bytes maxL ret n) : GoodIn WA (va_wsS own idx y (wsM y bytes maxL ret)) := by
  obtain ⟨⟨h1, h2, h4, h5⟩, -⟩ := h
  intro w hw
  unfold va_wsS at hw
  rcases List.mem_append.mp hw with q | q
  · simp only [List.mem_cons, List.not_mem_nil, or_false] at q
    rcases q with rfl | rfl | rfl
    · exact wa_gi h1
    · exact wa_gi h2
    · exact wa_gi h4
  · exact wsM_good h5 w q
def RmOk (rm R : Room) (maxL mc ms : Nat) : Prop := rm.cells = mc ∧ rm.slots = ms ∧ rm.frames + 1 ≤ R.frames ∧ 8 + (maxL + 11) + rm.locals ≤ R.locals
def Xc {σ : Type} (Hp : σ → Heap → Prop) (S0 : σ) (A : Nat → Prop) (X : String → Prop) : String → State → State → Prop := vx_X (fun _ : Unit => True) (fun E _ t => X E ∧ Hp S0 t.heap) A
def qSi (post : Int32 → Prop) : Array Value → State → Outcome → State → Prop := fun _ st oc t => ∃ r : Int32, oc = .returned (some (.int r)) ∧ post r ∧ t.heap = st.heap
def qSl (post : Int64 → Prop) : Array Value → State → Outcome → State → Prop := fun _ st oc t => ∃ r : Int64, oc = .returned (some (.long r)) ∧ post r ∧ t.heap = st.heap
section OC
variable {p : Program} {l : Launch} {e : Env} {R : Room} {s : State} {m : MethodId} {args : Array Value} {below : List Frame} {meth : Method} {c : Code} {H : Heap} {locs : List Loc} {cells slots : Nat} {Q : State → Prop}
variable {cc : ByteArray} {pc nL : Nat} {ls : Array Slot} {rest : List Value}
variable {σ : Type} {A : Nat → Prop} {Hp : σ → Heap → Prop} {Ev : State → Heap → Prop} {S0 : σ} {y : MethodName} {bytes : ByteArray} {maxL n idx mc ms mc' ms' b : Nat} {ret : Option FieldType} {rm : Room} {own : String} {As st0 : List Value}
theorem o_pre (hO : OI y.cls b A Hp Ev) (hC : Cn A Hp Ev S0 s H locs) : PreV s H y.cls b (PcO Hp Ev S0 (.ref b :: As)) As :=
  ⟨fun a U g mk q => ⟨q.1, q.2.1, hO.1.2 U g mk a q.2.2⟩, hO.2 s S0 H hC.1 hC.2.1, fun U hU hW => ⟨rfl, by rw [hU]; exact hC.2.1, hO.1.1 s U H locs hC.1 hU hW hC.2.2⟩⟩
theorem o_calli (hO : OI y.cls b A Hp Ev) (S : CallFix p m c cc nL s args WA own) (hC : Cn A Hp Ev S0 s H locs) {post : Int32 → σ → Prop} (hM : Met l y (wsM y bytes maxL ret) rm (PcO Hp Ev S0 (.ref b :: As)) (va_Qi post (fun S' t => Hp S' t.heap) A) mc ms A) (hw : VW own idx y bytes maxL ret n) (hrm : RmOk rm R maxL mc ms) (hn : As.length = n) (hsize : ls.size = nL) (hst : st0 = As.reverse ++ .ref b :: rest) (hW : (rest.map fun v => v.category).sum ≤ 8) (hdg : decode cc pc = .ok (.invokevirtual idx, 3)) (hf : cells + mc ≤ R.cells ∧ slots + ms ≤ R.slots)
    (kk : ∀ (r : Int32) (S1 : σ) (H1 : Heap) (locs1 : List Loc), post r S1 → Cn A Hp Ev S1 s H1 locs1 → W p l e R s m args below meth c H1 locs1 (cells + mc) (slots + ms) Q (F0 m (pc + 3) ls (.int r :: rest))) : W p l e R s m args below meth c H locs cells slots Q (F0 m pc ls st0) := by
  subst hst
  exact va_calli (va_runV (As := As) (rest := rest) S hM (cwV n S.2.2.2.2 (vw_good hw) rfl hrm.1 hrm.2.1 ⟨rfl, hw.2⟩ hrm.2.2) (o_pre hO hC) rfl hn hsize rfl (lv_room hW) hdg hf) hC.2.2 (fun q _ h => h) (fun q h => h) (fun r u t H1 locs1 ht hvm hp hB _ _ hS => kk r u H1 locs1 hp ⟨hC.1, by rw [← ht]; exact hB, hS⟩)
theorem o_xcalli (hO : OI y.cls b A Hp Ev) (S : CallFix p m c cc nL s args WA own) (hC : Cn A Hp Ev S0 s H locs) {post : Int32 → σ → Prop} {X X' : String → Prop} {Qc : Array Value → State → Outcome → State → Prop} (hM : vx_Met l y (wsM y bytes maxL ret) rm (PcO Hp Ev S0 (.ref b :: As)) (va_Qi post (fun S' t => Hp S' t.heap) A) (Xc Hp S0 A X) mc ms A) (hw : VW own idx y bytes maxL ret n) (hrm : RmOk rm R maxL mc ms) (hn : As.length = n) (hsize : ls.size = nL) (hst : st0 = As.reverse ++ .ref b :: rest) (hW : (rest.map fun v => v.category).sum ≤ 8) (hdg : decode cc pc = .ok (.invokevirtual idx, 3)) (hf : cells + mc ≤ R.cells ∧ slots + ms ≤ R.slots)
    (hnt : ∀ x ∈ c.exceptionTable.toList, False) (hlocks : meth.locks = false) (hm : cells + mc ≤ mc' ∧ slots + ms ≤ ms') (hX : ∀ E, X E → X' E)
    (kk : ∀ (r : Int32) (S1 : σ) (H1 : Heap) (locs1 : List Loc), post r S1 → Cn A Hp Ev S1 s H1 locs1 → W p l e R s m args below meth c H1 locs1 (cells + mc) (slots + ms) (vx_MQ below Qc (Xc Hp S0 A X') args s mc' ms' A) (F0 m (pc + 3) ls (.int r :: rest))) : W p l e R s m args below meth c H locs cells slots (vx_MQ below Qc (Xc Hp S0 A X') args s mc' ms' A) (F0 m pc ls st0) := by
  subst hst
  exact vx_calli (vx_runV (As := As) (rest := rest) S hM (cwV n S.2.2.2.2 (vw_good hw) rfl hrm.1 hrm.2.1 ⟨rfl, hw.2⟩ hrm.2.2) (o_pre hO hC) rfl hn hsize rfl (lv_room hW) hdg hf) hC.2.2 (fun q _ h => h) (fun q h => h) (fun q _ h => h)
    (fun E ce q9 u t H1 locs1 ht hvm _ hB _ _ hS h1 h2 h3 => vx_out (fun x hx => (hnt x hx).elim) hlocks h1 h2 h3 (fun t' ht' hvm' => ⟨(), trivial, ⟨hX E hB.1, by rw [ht', ← ht]; exact hB.2⟩, hS.F ht'⟩) hS.2.2 hm.1 hm.2)
    (fun r u t H1 locs1 ht hvm hp hB _ _ hS => kk r u H1 locs1 hp ⟨hC.1, by rw [← ht]; exact hB, hS⟩)
theorem o_calll (hO : OI y.cls b A Hp Ev) (S : CallFix p m c cc nL s args WA own) (hC : Cn A Hp Ev S0 s H locs) {post : Int64 → σ → Prop} (hM : Met l y (wsM y bytes maxL ret) rm (PcO Hp Ev S0 (.ref b :: As)) (va_Ql post (fun S' t => Hp S' t.heap) A) mc ms A) (hw : VW own idx y bytes maxL ret n) (hrm : RmOk rm R maxL mc ms) (hn : As.length = n) (hsize : ls.size = nL) (hst : st0 = As.reverse ++ .ref b :: rest) (hW : (rest.map fun v => v.category).sum ≤ 8) (hdg : decode cc pc = .ok (.invokevirtual idx, 3)) (hf : cells + mc ≤ R.cells ∧ slots + ms ≤ R.slots)
    (kk : ∀ (r : Int64) (S1 : σ) (H1 : Heap) (locs1 : List Loc), post r S1 → Cn A Hp Ev S1 s H1 locs1 → W p l e R s m args below meth c H1 locs1 (cells + mc) (slots + ms) Q (F0 m (pc + 3) ls (.long r :: rest))) : W p l e R s m args below meth c H locs cells slots Q (F0 m pc ls st0) := by
  subst hst
  exact va_calll (va_runV (As := As) (rest := rest) S hM (cwV n S.2.2.2.2 (vw_good hw) rfl hrm.1 hrm.2.1 ⟨rfl, hw.2⟩ hrm.2.2) (o_pre hO hC) rfl hn hsize rfl (lv_room hW) hdg hf) hC.2.2 (fun q _ h => h) (fun q h => h) (fun r u t H1 locs1 ht hvm hp hB _ _ hS => kk r u H1 locs1 hp ⟨hC.1, by rw [← ht]; exact hB, hS⟩)
theorem o_xcalll (hO : OI y.cls b A Hp Ev) (S : CallFix p m c cc nL s args WA own) (hC : Cn A Hp Ev S0 s H locs) {post : Int64 → σ → Prop} {X X' : String → Prop} {Qc : Array Value → State → Outcome → State → Prop} (hM : vx_Met l y (wsM y bytes maxL ret) rm (PcO Hp Ev S0 (.ref b :: As)) (va_Ql post (fun S' t => Hp S' t.heap) A) (Xc Hp S0 A X) mc ms A) (hw : VW own idx y bytes maxL ret n) (hrm : RmOk rm R maxL mc ms) (hn : As.length = n) (hsize : ls.size = nL) (hst : st0 = As.reverse ++ .ref b :: rest) (hW : (rest.map fun v => v.category).sum ≤ 8) (hdg : decode cc pc = .ok (.invokevirtual idx, 3)) (hf : cells + mc ≤ R.cells ∧ slots + ms ≤ R.slots)
    (hnt : ∀ x ∈ c.exceptionTable.toList, False) (hlocks : meth.locks = false) (hm : cells + mc ≤ mc' ∧ slots + ms ≤ ms') (hX : ∀ E, X E → X' E)
    (kk : ∀ (r : Int64) (S1 : σ) (H1 : Heap) (locs1 : List Loc), post r S1 → Cn A Hp Ev S1 s H1 locs1 → W p l e R s m args below meth c H1 locs1 (cells + mc) (slots + ms) (vx_MQ below Qc (Xc Hp S0 A X') args s mc' ms' A) (F0 m (pc + 3) ls (.long r :: rest))) : W p l e R s m args below meth c H locs cells slots (vx_MQ below Qc (Xc Hp S0 A X') args s mc' ms' A) (F0 m pc ls st0) := by
  subst hst
  exact vx_calll (vx_runV (As := As) (rest := rest) S hM (cwV n S.2.2.2.2 (vw_good hw) rfl hrm.1 hrm.2.1 ⟨rfl, hw.2⟩ hrm.2.2) (o_pre hO hC) rfl hn hsize rfl (lv_room hW) hdg hf) hC.2.2 (fun q _ h => h) (fun q h => h) (fun q _ h => h)
    (fun E ce q9 u t H1 locs1 ht hvm _ hB _ _ hS h1 h2 h3 => vx_out (fun x hx => (hnt x hx).elim) hlocks h1 h2 h3 (fun t' ht' hvm' => ⟨(), trivial, ⟨hX E hB.1, by rw [ht', ← ht]; exact hB.2⟩, hS.F ht'⟩) hS.2.2 hm.1 hm.2)
    (fun r u t H1 locs1 ht hvm hp hB _ _ hS => kk r u H1 locs1 hp ⟨hC.1, by rw [← ht]; exact hB, hS⟩)
theorem o_callv (hO : OI y.cls b A Hp Ev) (S : CallFix p m c cc nL s args WA own) (hC : Cn A Hp Ev S0 s H locs) {post : σ → Prop} (hM : Met l y (wsM y bytes maxL ret) rm (PcO Hp Ev S0 (.ref b :: As)) (va_Qv post (fun S' t => Hp S' t.heap) A) mc ms A) (hw : VW own idx y bytes maxL ret n) (hrm : RmOk rm R maxL mc ms) (hn : As.length = n) (hsize : ls.size = nL) (hst : st0 = As.reverse ++ .ref b :: rest) (hW : (rest.map fun v => v.category).sum ≤ 8) (hdg : decode cc pc = .ok (.invokevirtual idx, 3)) (hf : cells + mc ≤ R.cells ∧ slots + ms ≤ R.slots)
    (kk : ∀ (S1 : σ) (H1 : Heap) (locs1 : List Loc), post S1 → Cn A Hp Ev S1 s H1 locs1 → W p l e R s m args below meth c H1 locs1 (cells + mc) (slots + ms) Q (F0 m (pc + 3) ls rest)) : W p l e R s m args below meth c H locs cells slots Q (F0 m pc ls st0) := by
  subst hst
  exact va_callv (va_runV (As := As) (rest := rest) S hM (cwV n S.2.2.2.2 (vw_good hw) rfl hrm.1 hrm.2.1 ⟨rfl, hw.2⟩ hrm.2.2) (o_pre hO hC) rfl hn hsize rfl (lv_room hW) hdg hf) hC.2.2 (fun q _ h => h) (fun q h => h) (fun u t H1 locs1 ht hvm hp hB _ _ hS => kk u H1 locs1 hp ⟨hC.1, by rw [← ht]; exact hB, hS⟩)
theorem o_xcallv (hO : OI y.cls b A Hp Ev) (S : CallFix p m c cc nL s args WA own) (hC : Cn A Hp Ev S0 s H locs) {post : σ → Prop} {X X' : String → Prop} {Qc : Array Value → State → Outcome → State → Prop} (hM : vx_Met l y (wsM y bytes maxL ret) rm (PcO Hp Ev S0 (.ref b :: As)) (va_Qv post (fun S' t => Hp S' t.heap) A) (Xc Hp S0 A X) mc ms A) (hw : VW own idx y bytes maxL ret n) (hrm : RmOk rm R maxL mc ms) (hn : As.length = n) (hsize : ls.size = nL) (hst : st0 = As.reverse ++ .ref b :: rest) (hW : (rest.map fun v => v.category).sum ≤ 8) (hdg : decode cc pc = .ok (.invokevirtual idx, 3)) (hf : cells + mc ≤ R.cells ∧ slots + ms ≤ R.slots)
    (hnt : ∀ x ∈ c.exceptionTable.toList, False) (hlocks : meth.locks = false) (hm : cells + mc ≤ mc' ∧ slots + ms ≤ ms') (hX : ∀ E, X E → X' E)
    (kk : ∀ (S1 : σ) (H1 : Heap) (locs1 : List Loc), post S1 → Cn A Hp Ev S1 s H1 locs1 → W p l e R s m args below meth c H1 locs1 (cells + mc) (slots + ms) (vx_MQ below Qc (Xc Hp S0 A X') args s mc' ms' A) (F0 m (pc + 3) ls rest)) : W p l e R s m args below meth c H locs cells slots (vx_MQ below Qc (Xc Hp S0 A X') args s mc' ms' A) (F0 m pc ls st0) := by
  subst hst
  exact vx_callv (vx_runV (As := As) (rest := rest) S hM (cwV n S.2.2.2.2 (vw_good hw) rfl hrm.1 hrm.2.1 ⟨rfl, hw.2⟩ hrm.2.2) (o_pre hO hC) rfl hn hsize rfl (lv_room hW) hdg hf) hC.2.2 (fun q _ h => h) (fun q h => h) (fun q _ h => h)
    (fun E ce q9 u t H1 locs1 ht hvm _ hB _ _ hS h1 h2 h3 => vx_out (fun x hx => (hnt x hx).elim) hlocks h1 h2 h3 (fun t' ht' hvm' => ⟨(), trivial, ⟨hX E hB.1, by rw [ht', ← ht]; exact hB.2⟩, hS.F ht'⟩) hS.2.2 hm.1 hm.2)
    (fun u t H1 locs1 ht hvm hp hB _ _ hS => kk u H1 locs1 hp ⟨hC.1, by rw [← ht]; exact hB, hS⟩)
theorem s_calli (S : CallFix p m c cc nL s args WA own) {post : Int32 → Prop} (hM : Met l y (wsM y bytes maxL ret) rm (va_Pc As (fun _ => True)) (qSi post) 0 0 (fun _ => False)) (hw : SW own idx y bytes maxL ret n) (hrm : RmOk rm R maxL 0 0) (hn : As.length = n) (hsize : ls.size = nL) (hst : st0 = As.reverse ++ rest) (hW : (rest.map fun v => v.category).sum ≤ 8) (hdg : decode cc pc = .ok (.invokestatic idx, 3)) (hf : cells ≤ R.cells ∧ slots ≤ R.slots)
    (kk : ∀ (r : Int32), post r → W p l e R s m args below meth c H locs cells slots Q (F0 m (pc + 3) ls (.int r :: rest))) : W p l e R s m args below meth c H locs cells slots Q (F0 m pc ls st0) := by
  subst hst
  intro T hT X
  obtain ⟨v, st₀, t, T', L, h0, X', hL, e1, e2, ⟨r, hv, hp, hh⟩, st⟩ := va_runS (As := As) (rest := rest) (g := F0 m pc ls (As.reverse ++ rest)) S hM (va_cwS n S.2.2.2.2 (sw_good hw) rfl hrm.1 hrm.2.1 hw.2 hrm.2.2) ⟨fun a U g mk q => ⟨q.1, trivial⟩, fun U _ _ => ⟨rfl, trivial⟩⟩ rfl hn hsize rfl (lv_room hW) hdg hf T hT X
  cases hv
  have hLn : L = [] := List.eq_nil_iff_forall_not_mem.mpr (fun z hz => hL z hz)
  subst hLn
  rw [List.append_nil] at X'
  obtain ⟨t2, a1, b1⟩ := kk r hp T' (by rw [e1, hh, h0]) X'
  exact ⟨t2, st t2 a1, b1⟩
theorem s_calll (S : CallFix p m c cc nL s args WA own) {post : Int64 → Prop} (hM : Met l y (wsM y bytes maxL ret) rm (va_Pc As (fun _ => True)) (qSl post) 0 0 (fun _ => False)) (hw : SW own idx y bytes maxL ret n) (hrm : RmOk rm R maxL 0 0) (hn : As.length = n) (hsize : ls.size = nL) (hst : st0 = As.reverse ++ rest) (hW : (rest.map fun v => v.category).sum ≤ 8) (hdg : decode cc pc = .ok (.invokestatic idx, 3)) (hf : cells ≤ R.cells ∧ slots ≤ R.slots)
    (kk : ∀ (r : Int64), post r → W p l e R s m args below meth c H locs cells slots Q (F0 m (pc + 3) ls (.long r :: rest))) : W p l e R s m args below meth c H locs cells slots Q (F0 m pc ls st0) := by
  subst hst
  intro T hT X
  obtain ⟨v, st₀, t, T', L, h0, X', hL, e1, e2, ⟨r, hv, hp, hh⟩, st⟩ := va_runS (As := As) (rest := rest) (g := F0 m pc ls (As.reverse ++ rest)) S hM (va_cwS n S.2.2.2.2 (sw_good hw) rfl hrm.1 hrm.2.1 hw.2 hrm.2.2) ⟨fun a U g mk q => ⟨q.1, trivial⟩, fun U _ _ => ⟨rfl, trivial⟩⟩ rfl hn hsize rfl (lv_room hW) hdg hf T hT X
  cases hv
  have hLn : L = [] := List.eq_nil_iff_forall_not_mem.mpr (fun z hz => hL z hz)
  subst hLn
  rw [List.append_nil] at X'
  obtain ⟨t2, a1, b1⟩ := kk r hp T' (by rw [e1, hh, h0]) X'
  exact ⟨t2, st t2 a1, b1⟩
theorem o_enter (hy : plainName y.cls = true) {av : List Value} {Qc : Array Value → State → Outcome → State → Prop} (hlen : (lg_sl av).length ≤ maxL)
    (body : ∀ (p : Program) (e : Env) (s : State) (m : MethodId) (below : List Frame) (meth : Method) (c : Code) (ls : Array Slot), CallFix p m c bytes maxL s av.toArray WA y.cls → meth.sig.returnType = ret → meth.locks = false → Cn A Hp Ev S0 s s.heap [] → lv_has ls maxL (lv_args 0 av) → W p l e rm s m av.toArray below meth c s.heap [] 0 0 (MQ below Qc av.toArray s mc ms A) (F0 m 0 ls [])) : Met l y (wsM y bytes maxL ret) rm (PcO Hp Ev S0 av) Qc mc ms A := by
  refine Met.ofW (cc := bytes) (maxL := maxL) (ret := ret) hy rfl ?_
  intro p e s m args below meth c s₁ B hml hv
  obtain ⟨rfl, hH, hE⟩ := hv
  rw [lg_entry_eq]
  exact body p e s m below meth c _ ⟨B.exec, B.bytes, hml, findClass_of_methodNamed B.named, fun w h => atoms_spec (ws := wsM y bytes maxL ret) B.pre w (List.mem_cons_of_mem _ h)⟩ B.returns B.notSynchronized ⟨hE, hH, va_S.rf⟩ (lv_entry av hlen)
theorem o_enterx (hy : plainName y.cls = true) {av : List Value} {Qc : Array Value → State → Outcome → State → Prop} {XC : String → State → State → Prop} (hlen : (lg_sl av).length ≤ maxL)
    (body : ∀ (p : Program) (e : Env) (s : State) (m : MethodId) (below : List Frame) (meth : Method) (c : Code) (ls : Array Slot), CallFix p m c bytes maxL s av.toArray WA y.cls → meth.sig.returnType = ret → meth.locks = false → (∀ x ∈ c.exceptionTable.toList, False) → Cn A Hp Ev S0 s s.heap [] → lv_has ls maxL (lv_args 0 av) → W p l e rm s m av.toArray below meth c s.heap [] 0 0 (vx_MQ below Qc XC av.toArray s mc ms A) (F0 m 0 ls [])) : vx_Met l y (wsM y bytes maxL ret) rm (PcO Hp Ev S0 av) Qc XC mc ms A := by
  refine vx_ofW (cc := bytes) (maxL := maxL) (ret := ret) hy rfl ?_
  intro p e s m args below meth c s₁ B hml hnt hv
  obtain ⟨rfl, hH, hE⟩ := hv
  rw [lg_entry_eq]
  exact body p e s m below meth c _ ⟨B.exec, B.bytes, hml, findClass_of_methodNamed B.named, fun w h => atoms_spec (ws := wsM y bytes maxL ret) B.pre w (List.mem_cons_of_mem _ h)⟩ B.returns B.notSynchronized hnt ⟨hE, hH, va_S.rf⟩ (lv_entry av hlen)
theorem s_enter (hy : plainName y.cls = true) {av : List Value} {Qc : Array Value → State → Outcome → State → Prop} (hlen : (lg_sl av).length ≤ maxL)
    (body : ∀ (p : Program) (e : Env) (s : State) (m : MethodId) (below : List Frame) (meth : Method) (c : Code) (ls : Array Slot), CallFix p m c bytes maxL s av.toArray WA y.cls → meth.sig.returnType = ret → meth.locks = false → lv_has ls maxL (lv_args 0 av) → W p l e rm s m av.toArray below meth c s.heap [] 0 0 (MQ below Qc av.toArray s 0 0 (fun _ => False)) (F0 m 0 ls [])) : Met l y (wsM y bytes maxL ret) rm (va_Pc av (fun _ => True)) Qc 0 0 (fun _ => False) := by
  refine Met.ofW (cc := bytes) (maxL := maxL) (ret := ret) hy rfl ?_
  intro p e s m args below meth c s₁ B hml hv
  obtain ⟨rfl, -⟩ := hv
  rw [lg_entry_eq]
  exact body p e s m below meth c _ ⟨B.exec, B.bytes, hml, findClass_of_methodNamed B.named, fun w h => atoms_spec (ws := wsM y bytes maxL ret) B.pre w (List.mem_cons_of_mem _ h)⟩ B.returns B.notSynchronized (lv_entry av hlen)
theorem o_iret {ty : FieldType} {v : Int32} {post : Int32 → σ → Prop} (S : CallFix p m c cc nL s args WA own) (hr : meth.sig.returnType = some ty) (hlocks : meth.locks = false) (hC : Cn A Hp Ev S0 s H locs) (hp : post v S0) (hnar : narrow ty (.int v) = .int v) (hdg : decode cc pc = .ok (.ireturn, 1)) (h1 : cells ≤ mc) (h2 : slots ≤ ms) : W p l e R s m args below meth c H locs cells slots (MQ below (va_Qi post (fun S' t => Hp S' t.heap) A) args s mc ms A) (F0 m pc ls [.int v]) :=
  W.widen h1 h2 (W.zret S.1 S.2.1 hr hnar (fun t ht hW => ⟨⟨v, S0, rfl, hp, by show Hp S0 t.heap; rw [ht]; exact hC.2.1⟩, hC.2.2.F ht⟩) hC.2.2.2.2 hdg hlocks)
theorem o_lret {v : Int64} {post : Int64 → σ → Prop} (S : CallFix p m c cc nL s args WA own) (hr : meth.sig.returnType = some .long) (hlocks : meth.locks = false) (hC : Cn A Hp Ev S0 s H locs) (hp : post v S0) (hdg : decode cc pc = .ok (.lreturn, 1)) (h1 : cells ≤ mc) (h2 : slots ≤ ms) : W p l e R s m args below meth c H locs cells slots (MQ below (va_Ql post (fun S' t => Hp S' t.heap) A) args s mc ms A) (F0 m pc ls [.long v]) :=
  W.widen h1 h2 (W.lret S.1 S.2.1 hr (fun t ht hW => ⟨⟨v, S0, rfl, hp, by show Hp S0 t.heap; rw [ht]; exact hC.2.1⟩, hC.2.2.F ht⟩) hC.2.2.2.2 hdg hlocks)
theorem o_vret {post : σ → Prop} (S : CallFix p m c cc nL s args WA own) (hr : meth.sig.returnType = none) (hlocks : meth.locks = false) (hC : Cn A Hp Ev S0 s H locs) (hp : post S0) (hdg : decode cc pc = .ok (.return_, 1)) (h1 : cells ≤ mc) (h2 : slots ≤ ms) : W p l e R s m args below meth c H locs cells slots (MQ below (va_Qv post (fun S' t => Hp S' t.heap) A) args s mc ms A) (F0 m pc ls []) :=
  W.widen h1 h2 (W.vret S.1 S.2.1 hr (fun t ht hW => ⟨⟨S0, rfl, hp, by show Hp S0 t.heap; rw [ht]; exact hC.2.1⟩, hC.2.2.F ht⟩) hC.2.2.2.2 hdg hlocks)
theorem s_iret {ty : FieldType} {v : Int32} {post : Int32 → Prop} (S : CallFix p m c cc nL s args WA own) (hr : meth.sig.returnType = some ty) (hlocks : meth.locks = false) (hp : post v) (hnar : narrow ty (.int v) = .int v) (hdg : decode cc pc = .ok (.ireturn, 1)) : W p l e R s m args below meth c s.heap [] 0 0 (MQ below (qSi post) args s 0 0 (fun _ => False)) (F0 m pc ls [.int v]) :=
  W.zret S.1 S.2.1 hr hnar (fun t ht hW => ⟨v, rfl, hp, ht⟩) (fun q h => by cases h) hdg hlocks
theorem s_lret {v : Int64} {post : Int64 → Prop} (S : CallFix p m c cc nL s args WA own) (hr : meth.sig.returnType = some .long) (hlocks : meth.locks = false) (hp : post v) (hdg : decode cc pc = .ok (.lreturn, 1)) : W p l e R s m args below meth c s.heap [] 0 0 (MQ below (qSl post) args s 0 0 (fun _ => False)) (F0 m pc ls [.long v]) :=
  W.lret S.1 S.2.1 hr (fun t ht hW => ⟨v, rfl, hp, ht⟩) (fun q h => by cases h) hdg hlocks
end OC
section NB
variable {p : Program} {l : Launch} {e : Env} {R : Room} {s : State} {m : MethodId} {args : Array Value} {below : List Frame} {meth : Method} {c : Code} {H : Heap} {locs : List Loc} {cells slots : Nat} {Q : State → Prop}
variable {cc : ByteArray} {pc nL : Nat} {ls : Array Slot} {rest : List Value}
theorem n_icmp_lt {a b : Nat} (hx : p.tables.exec = Jvm.exec) (hb0 : c.code = cc) {off : Int} {tgt : Nat} (hdg : decode cc pc = .ok (.if_icmp .lt off, 3)) (ht : (pc : Int) + off = (tgt : Int)) (ha : a < 2 ^ 31) (hb : b < 2 ^ 31)
    (kt : a < b → W p l e R s m args below meth c H locs cells slots Q (F0 m tgt ls rest)) (kf : b ≤ a → W p l e R s m args below meth c H locs cells slots Q (F0 m (pc + 3) ls rest)) : W p l e R s m args below meth c H locs cells slots Q (F0 m pc ls (.int (nI b) :: .int (nI a) :: rest)) :=
  lv_icmp_lt hx hb0 hdg ht (fun h => kt ((nI_ltI ha hb).mp h)) (fun h => kf ((Nat.not_lt.mp fun q => h ((nI_ltI ha hb).mpr q))))
theorem n_icmp_ge {a b : Nat} (hx : p.tables.exec = Jvm.exec) (hb0 : c.code = cc) {off : Int} {tgt : Nat} (hdg : decode cc pc = .ok (.if_icmp .ge off, 3)) (ht : (pc : Int) + off = (tgt : Int)) (ha : a < 2 ^ 31) (hb : b < 2 ^ 31)
    (kt : b ≤ a → W p l e R s m args below meth c H locs cells slots Q (F0 m tgt ls rest)) (kf : a < b → W p l e R s m args below meth c H locs cells slots Q (F0 m (pc + 3) ls rest)) : W p l e R s m args below meth c H locs cells slots Q (F0 m pc ls (.int (nI b) :: .int (nI a) :: rest)) :=
  lv_icmp_ge hx hb0 hdg ht (fun h => kt ((nI_leI hb ha).mp h)) (fun h => kf ((Nat.not_le.mp fun q => h ((nI_leI hb ha).mpr q))))
theorem n_icmp_gt {a b : Nat} (hx : p.tables.exec = Jvm.exec) (hb0 : c.code = cc) {off : Int} {tgt : Nat} (hdg : decode cc pc = .ok (.if_icmp .gt off, 3)) (ht : (pc : Int) + off = (tgt : Int)) (ha : a < 2 ^ 31) (hb : b < 2 ^ 31)
    (kt : b < a → W p l e R s m args below meth c H locs cells slots Q (F0 m tgt ls rest)) (kf : a ≤ b → W p l e R s m args below meth c H locs cells slots Q (F0 m (pc + 3) ls rest)) : W p l e R s m args below meth c H locs cells slots Q (F0 m pc ls (.int (nI b) :: .int (nI a) :: rest)) :=
  lv_icmp_gt hx hb0 hdg ht (fun h => kt ((nI_ltI hb ha).mp h)) (fun h => kf ((Nat.not_lt.mp fun q => h ((nI_ltI hb ha).mpr q))))
theorem n_icmp_le {a b : Nat} (hx : p.tables.exec = Jvm.exec) (hb0 : c.code = cc) {off : Int} {tgt : Nat} (hdg : decode cc pc = .ok (.if_icmp .le off, 3)) (ht : (pc : Int) + off = (tgt : Int)) (ha : a < 2 ^ 31) (hb : b < 2 ^ 31)
    (kt : a ≤ b → W p l e R s m args below meth c H locs cells slots Q (F0 m tgt ls rest)) (kf : b < a → W p l e R s m args below meth c H locs cells slots Q (F0 m (pc + 3) ls rest)) : W p l e R s m args below meth c H locs cells slots Q (F0 m pc ls (.int (nI b) :: .int (nI a) :: rest)) :=
  lv_icmp_le hx hb0 hdg ht (fun h => kt ((nI_leI ha hb).mp h)) (fun h => kf ((Nat.not_le.mp fun q => h ((nI_leI ha hb).mpr q))))
theorem n_icmp_eq {a b : Nat} (hx : p.tables.exec = Jvm.exec) (hb0 : c.code = cc) {off : Int} {tgt : Nat} (hdg : decode cc pc = .ok (.if_icmp .eq off, 3)) (ht : (pc : Int) + off = (tgt : Int)) (ha : a < 2 ^ 31) (hb : b < 2 ^ 31)
    (kt : a = b → W p l e R s m args below meth c H locs cells slots Q (F0 m tgt ls rest)) (kf : a ≠ b → W p l e R s m args below meth c H locs cells slots Q (F0 m (pc + 3) ls rest)) : W p l e R s m args below meth c H locs cells slots Q (F0 m pc ls (.int (nI b) :: .int (nI a) :: rest)) :=
  lv_icmp_eq hx hb0 hdg ht (fun h => kt ((nI_eq ha hb).mp h)) (fun h => kf ((fun q => h ((nI_eq ha hb).mpr q))))
theorem n_icmp_ne {a b : Nat} (hx : p.tables.exec = Jvm.exec) (hb0 : c.code = cc) {off : Int} {tgt : Nat} (hdg : decode cc pc = .ok (.if_icmp .ne off, 3)) (ht : (pc : Int) + off = (tgt : Int)) (ha : a < 2 ^ 31) (hb : b < 2 ^ 31)
    (kt : a ≠ b → W p l e R s m args below meth c H locs cells slots Q (F0 m tgt ls rest)) (kf : a = b → W p l e R s m args below meth c H locs cells slots Q (F0 m (pc + 3) ls rest)) : W p l e R s m args below meth c H locs cells slots Q (F0 m pc ls (.int (nI b) :: .int (nI a) :: rest)) :=
  lv_icmp_ne hx hb0 hdg ht (fun h => kt ((fun q => h ((nI_eq ha hb).mpr q)))) (fun h => kf ((nI_eq ha hb).mp h))
theorem b_if_eq {b : Bool} (hx : p.tables.exec = Jvm.exec) (hb0 : c.code = cc) {off : Int} {tgt : Nat} (hdg : decode cc pc = .ok (.ifCond .eq off, 3)) (ht : (pc : Int) + off = (tgt : Int))
    (kt : b = false → W p l e R s m args below meth c H locs cells slots Q (F0 m tgt ls rest)) (kf : b = true → W p l e R s m args below meth c H locs cells slots Q (F0 m (pc + 3) ls rest)) : W p l e R s m args below meth c H locs cells slots Q (F0 m pc ls (.int (bI b) :: rest)) :=
  lv_if_eq hx hb0 hdg ht (fun h => kt (bI_0.mp h)) (fun h => kf (bI_n0.mp h))
theorem b_if_ne {b : Bool} (hx : p.tables.exec = Jvm.exec) (hb0 : c.code = cc) {off : Int} {tgt : Nat} (hdg : decode cc pc = .ok (.ifCond .ne off, 3)) (ht : (pc : Int) + off = (tgt : Int))
    (kt : b = true → W p l e R s m args below meth c H locs cells slots Q (F0 m tgt ls rest)) (kf : b = false → W p l e R s m args below meth c H locs cells slots Q (F0 m (pc + 3) ls rest)) : W p l e R s m args below meth c H locs cells slots Q (F0 m pc ls (.int (bI b) :: rest)) :=
  lv_if_ne hx hb0 hdg ht (fun h => kt (bI_n0.mp h)) (fun h => kf (bI_0.mp h))
end NB
end
section
abbrev Gc : Type := (Nat → Nat) × (Nat → ClassId)
/-- a RelationRows' state: relations, settled, pushedCount; kinds, tallies, forms, firsts, seconds, pushedFirsts, pushedSeconds, steps; rows -/
abbrev RS : Type := (Nat → Int32) × (Nat → Nat → Int32) × (Nat → Nat → Int64)
/-- a RelationRowsModel's state: code, relations, pushes; kinds, form, one, two, pushedFirst, pushedSecond, tallies, steps; pairs, joined -/
abbrev MS : Type := (Nat → Int32) × (Nat → Nat → Int32) × (Nat → Nat → Bool)
def sI {α : Type} (S : (Nat → Int32) × α) (k : Nat) (x : Int32) : (Nat → Int32) × α := (upd S.1 k x, S.2)
def sA {α : Type} (S : (Nat → Int32) × (Nat → Nat → Int32) × α) (k j : Nat) (x : Int32) : (Nat → Int32) × (Nat → Nat → Int32) × α := (S.1, up2 S.2.1 k j x, S.2.2)
def sW {α : Type} (S : (Nat → Int32) × (Nat → Nat → Int32) × (Nat → Nat → α)) (k j : Nat) (x : α) : (Nat → Int32) × (Nat → Nat → Int32) × (Nat → Nat → α) := (S.1, S.2.1, up2 S.2.2 k j x)
def allL (n : Nat) : Int64 := ((1 : Int64) <<< ((nI n).toInt64 &&& 63)) - 1
def fX0 (n : Nat) (loc : Nat → Nat) (iv : Nat → Int32) : Nat → Value := fun k => match k with
  | 0 => .int (nI n) | 1 => .long (allL n) | 2 => .ref (loc 1) | 3 => .ref (loc 2) | 4 => .int (iv 0) | 5 => .ref (loc 3) | 6 => .ref (loc 4) | 7 => .ref (loc 5) | 8 => .ref (loc 9) | 9 => .int (iv 1) | 10 => .int (iv 2) | 11 => .ref (loc 6) | 12 => .ref (loc 7) | _ => .ref (loc 8)
def lnX0 (n : Nat) : Nat → Nat := fun i => match i with
  | 0 => n | 1 => n * n | 2 => 12 | 3 => 12 | 4 => 12 | 5 => 2 | 6 => 2 | 7 => n | 8 => 12 | _ => n
def clX0 (g : Gc) : Nat → ClassId := fun i => if i < 8 then g.2 1 else if i = 8 then g.2 2 else g.2 3
def cX0 (loc : Nat → Nat) (ar : Nat → Nat → Int32) (rw : Nat → Nat → Int64) : Nat → Nat → Value := fun i j => if i < 8 then .int (ar i j) else if i = 8 then .ref (loc (10 + j)) else .long (rw (i - 9) j)
def HX (loc : Nat → Nat) (n : Nat) (g : Gc) (S : RS) (H : Heap) : Prop := ZH loc 21 (g.2 0) 14 g.1 (fX0 n loc S.1) (clX0 g) (lnX0 n) (cX0 loc S.2.1 S.2.2) H
def KX (g : Gc) (s : State) : Prop := u_Kn s RX0 TX0 14 (g.2 0) g.1 ∧ ArrOfT s (g.2 1) .int ∧ ArrOfT s (g.2 2) (.array .long) ∧ ArrOfT s (g.2 3) .long ∧ va_RA s (g.2 3) .long
def strsX : List (Nat × String) := [(104, "no such condition"), (113, "one relation is enough"), (142, "which is 0 or 1"), (146, "no such pair was pushed out"), (164, "the route has no such thing"), (169, "the relation has no classes"), (175, "the thing is of another kind"), (188, "no such thing"), (191, "what is 0, 1 or 2"), (193, "no such relation"), (195, "there are as many relations as can be"), (200, "it is a relation by a condition"), (202, "the pair does not fit"), (204, "no thing is its own twin"), (213, "there are not so many"), (77, "no such kind"), (84, "there are relations already"), (87, "no such form"), (92, "this form has like kinds")]
def sInit (C : String) : MethodName := ⟨C, "<init>", "(Ljava/lang/String;)V"⟩
def xwN : List Cond := [.castable "java/lang/IllegalArgumentException" "java/lang/IllegalArgumentException", .castable "java/lang/IllegalStateException" "java/lang/IllegalStateException", .castable "java/util/NoSuchElementException" "java/util/NoSuchElementException", .castable "java/lang/ArrayIndexOutOfBoundsException" "java/lang/ArrayIndexOutOfBoundsException", .declares (sInit "java/lang/RuntimeException"), .declares (sInit "java/lang/Exception"), .declares (sInit "java/lang/Throwable"), .declares (sInit "java/lang/IndexOutOfBoundsException")]
theorem nw_warmD {x : MethodName} {s U : State} (hW : s.WarmedH U.vm) (hZ : va_Nw (.declares x) s) : va_Nw (.declares x) U := va_tabs rfl (rfl : (s.setVm U.vm).vm = U.vm) (by rw [Cond.declares_setVm hW.alike]; exact hZ)
theorem nw_warm {w : Cond} (hw : w ∈ xwN) {s U : State} (hW : s.WarmedH U.vm) (h : va_Nw w s) : va_Nw w U := by
  simp only [xwN, List.mem_cons, List.not_mem_nil, or_false] at hw
  rcases hw with rfl | rfl | rfl | rfl | rfl | rfl | rfl | rfl
  · exact va_Nw.warmC hW h
  · exact va_Nw.warmC hW h
  · exact va_Nw.warmC hW h
  · exact va_Nw.warmC hW h
  · exact nw_warmD hW h
  · exact nw_warmD hW h
  · exact nw_warmD hW h
  · exact nw_warmD hW h
theorem nw_tab {w : Cond} (hw : w ∈ xwN) : w.onTables = true := List.all_eq_true.mp (show xwN.all (fun w => w.onTables) = true by decide) w hw
def EX (loc : Nat → Nat) (s : State) (H : Heap) : Prop := (∀ w ∈ xwN, va_Nw w s) ∧ vx_Zq Bundle.tN "UNASSIGNED_STACK" Bundle.steD (ZA loc 21) s H ∧ vx_Zq Bundle.tN "SUPPRESSED_SENTINEL" Bundle.listD (ZA loc 21) s H ∧ ∀ q ∈ strsX, ∃ a, vk_R RX0 q.1 q.2 a s
def EvX (loc : Nat → Nat) (g : Gc) (s : State) (H : Heap) : Prop := KX g s ∧ EX loc s H ∧ ZJ loc 21
abbrev CX (loc : Nat → Nat) (n : Nat) (g : Gc) (S : RS) (s : State) (H : Heap) (locs : List Loc) : Prop := Cn (ZA loc 21) (HX loc n g) (EvX loc g) S s H locs
theorem KX.moved {g : Gc} {u U : State} (hvm : u.vm.Alike U.vm) (h : KX g u) : KX g U := ⟨u_Kn_moved hvm h.1, arrOfT_moved hvm h.2.1, arrOfT_moved hvm h.2.2.1, arrOfT_moved hvm h.2.2.2.1, va_RA.moved hvm h.2.2.2.2⟩
theorem oiX {loc : Nat → Nat} {n : Nat} {g : Gc} : OI RX0 (loc 0) (ZA loc 21) (HX loc n g) (EvX loc g) := by
  refine ⟨⟨fun s U H locs hE hU hW hS => ?_, fun U gg mk a hE => ?_⟩, fun s S H hE hH => ?_⟩
  · obtain ⟨hK, ⟨h4, h1, h2, h3⟩, hJ⟩ := hE
    have hk : ∀ a : Nat, a < s.heap.size → ¬ ZA loc 21 a → U.heap[a]? = s.heap[a]? := by rw [hU]; exact hS.2.1
    exact ⟨hK.moved hW.alike, ⟨fun w hw => nw_warm hw hW (h4 w hw), (h1.kept hk).moved hW.alike, (h2.kept hk).moved hW.alike, fun q hq => (h3 q hq).elim fun a ha => ⟨a, ha.warm hW⟩⟩, hJ⟩
  · obtain ⟨hK, ⟨h4, h1, h2, h3⟩, hJ⟩ := hE
    exact ⟨hK.moved (Vm.Alike.refl U.vm), ⟨fun w hw => va_Nw.same (u := U) (U := U.calling gg mk a) (nw_tab hw) rfl (h4 w hw), vx_Zq.moved (U := U.calling gg mk a) (Vm.Alike.refl U.vm) h1, vx_Zq.moved (U := U.calling gg mk a) (Vm.Alike.refl U.vm) h2, fun q hq => (h3 q hq).elim fun a ha => ⟨a, vk_R.same rfl ha⟩⟩, hJ⟩
  · obtain ⟨cell, q1, q2, q3, -⟩ := hH.1
    exact ⟨cell, q1, by rw [q3]; rfl, by rw [q2]; exact hE.1.1.2.1⟩
theorem lnX0_lt {n : Nat} (hn : n ≤ 40) (i : Nat) : lnX0 n i < 2 ^ 31 := by
  have h2 : n * n ≤ 40 * 40 := Nat.mul_le_mul hn hn
  unfold lnX0
  split <;> omega
/-- the model -/
def fX1 (n : Nat) (loc : Nat → Nat) (iv : Nat → Int32) : Nat → Value := fun k => match k with
  | 0 => .int (iv 0) | 1 => .int (nI n) | 2 => .ref (loc 1) | 3 => .int (iv 1) | 4 => .ref (loc 2) | 5 => .ref (loc 3) | 6 => .ref (loc 4) | 7 => .ref (loc 9) | 8 => .int (iv 2) | 9 => .ref (loc 5) | 10 => .ref (loc 6) | 11 => .ref (loc 7) | 12 => .ref (loc 10) | _ => .ref (loc 8)
def lnX1 : Nat → Nat := fun i => match i with
  | 0 => 40 | 1 => 12 | 2 => 12 | 3 => 12 | 4 => 4 | 5 => 4 | 6 => 1600 | 7 => 40 | 8 => 19200 | _ => 1600
def clX1 (g : Gc) : Nat → ClassId := fun i => if i < 8 then g.2 1 else g.2 2
def cX1 (ar : Nat → Nat → Int32) (bl : Nat → Nat → Bool) : Nat → Nat → Value := fun i j => if i < 8 then .int (ar i j) else .int (bI (bl (i - 8) j))
def HM (loc : Nat → Nat) (n : Nat) (g : Gc) (S : MS) (H : Heap) : Prop := ZH loc 10 (g.2 0) 14 g.1 (fX1 n loc S.1) (clX1 g) lnX1 (cX1 S.2.1 S.2.2) H
def KM (g : Gc) (s : State) : Prop := u_Kn s RX1 TX1 14 (g.2 0) g.1 ∧ ArrOfT s (g.2 1) .int ∧ ArrOfT s (g.2 2) .boolean
def EvM (loc : Nat → Nat) (g : Gc) (s : State) (_ : Heap) : Prop := KM g s ∧ ZJ loc 10
abbrev CM (loc : Nat → Nat) (n : Nat) (g : Gc) (S : MS) (s : State) (H : Heap) (locs : List Loc) : Prop := Cn (ZA loc 10) (HM loc n g) (EvM loc g) S s H locs
theorem KM.moved {g : Gc} {u U : State} (hvm : u.vm.Alike U.vm) (h : KM g u) : KM g U := ⟨u_Kn_moved hvm h.1, arrOfT_moved hvm h.2.1, arrOfT_moved hvm h.2.2⟩
theorem oiM {loc : Nat → Nat} {n : Nat} {g : Gc} : OI RX1 (loc 0) (ZA loc 10) (HM loc n g) (EvM loc g) := by
  refine ⟨⟨fun s U H locs hE hU hW hS => ⟨hE.1.moved hW.alike, hE.2⟩, fun U gg mk a hE => ⟨hE.1.moved (Vm.Alike.refl U.vm), hE.2⟩⟩, fun s S H hE hH => ?_⟩
  obtain ⟨cell, q1, q2, q3, -⟩ := hH.1
  exact ⟨cell, q1, by rw [q3]; rfl, by rw [q2]; exact hE.1.1.2.1⟩
theorem lnX1_lt (i : Nat) : lnX1 i < 2 ^ 31 := by
  unfold lnX1
  split <;> omega
section XR
variable {p : Program} {l : Launch} {e : Env} {R : Room} {s : State} {m : MethodId} {args : Array Value} {below : List Frame} {meth : Method} {c : Code} {H : Heap} {locs : List Loc} {cells slots : Nat} {Q : State → Prop}
variable {cc : ByteArray} {pc nL : Nat} {ls : Array Slot} {rest : List Value} {loc : Nat → Nat} {n : Nat} {g : Gc}
variable {S0 : RS}
theorem x_get_things (S : CallFix p m c cc nL s args WA RX0) (hC : CX loc n g S0 s H locs) (hdg : decode cc pc = .ok (.getfield 18, 3)) (kk : W p l e R s m args below meth c H locs cells slots Q (F0 m (pc + 3) ls (.int (nI n) :: rest))) : W p l e R s m args below meth c H locs cells slots Q (F0 m pc ls (.ref (loc 0) :: rest)) :=
  z_get S inX0 hC.1.1.1 hC.2.1 0 (by decide) w_11 rfl hdg kk
theorem x_get_allThings (S : CallFix p m c cc nL s args WA RX0) (hC : CX loc n g S0 s H locs) (hdg : decode cc pc = .ok (.getfield 22, 3)) (kk : W p l e R s m args below meth c H locs cells slots Q (F0 m (pc + 3) ls (.long (allL n) :: rest))) : W p l e R s m args below meth c H locs cells slots Q (F0 m pc ls (.ref (loc 0) :: rest)) :=
  z_get S inX0 hC.1.1.1 hC.2.1 1 (by decide) w_12 rfl hdg kk
theorem x_get_kinds (S : CallFix p m c cc nL s args WA RX0) (hC : CX loc n g S0 s H locs) (hdg : decode cc pc = .ok (.getfield 26, 3)) (kk : W p l e R s m args below meth c H locs cells slots Q (F0 m (pc + 3) ls (.ref (loc 1) :: rest))) : W p l e R s m args below meth c H locs cells slots Q (F0 m pc ls (.ref (loc 0) :: rest)) :=
  z_get S inX0 hC.1.1.1 hC.2.1 2 (by decide) w_14 rfl hdg kk
theorem x_get_tallies (S : CallFix p m c cc nL s args WA RX0) (hC : CX loc n g S0 s H locs) (hdg : decode cc pc = .ok (.getfield 30, 3)) (kk : W p l e R s m args below meth c H locs cells slots Q (F0 m (pc + 3) ls (.ref (loc 2) :: rest))) : W p l e R s m args below meth c H locs cells slots Q (F0 m pc ls (.ref (loc 0) :: rest)) :=
  z_get S inX0 hC.1.1.1 hC.2.1 3 (by decide) w_15 rfl hdg kk
theorem x_get_relations (S : CallFix p m c cc nL s args WA RX0) (hC : CX loc n g S0 s H locs) (hdg : decode cc pc = .ok (.getfield 56, 3)) (kk : W p l e R s m args below meth c H locs cells slots Q (F0 m (pc + 3) ls (.int (S0.1 0) :: rest))) : W p l e R s m args below meth c H locs cells slots Q (F0 m pc ls (.ref (loc 0) :: rest)) :=
  z_get S inX0 hC.1.1.1 hC.2.1 4 (by decide) w_27 rfl hdg kk
theorem x_get_forms (S : CallFix p m c cc nL s args WA RX0) (hC : CX loc n g S0 s H locs) (hdg : decode cc pc = .ok (.getfield 33, 3)) (kk : W p l e R s m args below meth c H locs cells slots Q (F0 m (pc + 3) ls (.ref (loc 3) :: rest))) : W p l e R s m args below meth c H locs cells slots Q (F0 m pc ls (.ref (loc 0) :: rest)) :=
  z_get S inX0 hC.1.1.1 hC.2.1 5 (by decide) w_16 rfl hdg kk
theorem x_get_firsts (S : CallFix p m c cc nL s args WA RX0) (hC : CX loc n g S0 s H locs) (hdg : decode cc pc = .ok (.getfield 36, 3)) (kk : W p l e R s m args below meth c H locs cells slots Q (F0 m (pc + 3) ls (.ref (loc 4) :: rest))) : W p l e R s m args below meth c H locs cells slots Q (F0 m pc ls (.ref (loc 0) :: rest)) :=
  z_get S inX0 hC.1.1.1 hC.2.1 6 (by decide) w_17 rfl hdg kk
theorem x_get_seconds (S : CallFix p m c cc nL s args WA RX0) (hC : CX loc n g S0 s H locs) (hdg : decode cc pc = .ok (.getfield 39, 3)) (kk : W p l e R s m args below meth c H locs cells slots Q (F0 m (pc + 3) ls (.ref (loc 5) :: rest))) : W p l e R s m args below meth c H locs cells slots Q (F0 m pc ls (.ref (loc 0) :: rest)) :=
  z_get S inX0 hC.1.1.1 hC.2.1 7 (by decide) w_18 rfl hdg kk
theorem x_get_rows (S : CallFix p m c cc nL s args WA RX0) (hC : CX loc n g S0 s H locs) (hdg : decode cc pc = .ok (.getfield 44, 3)) (kk : W p l e R s m args below meth c H locs cells slots Q (F0 m (pc + 3) ls (.ref (loc 9) :: rest))) : W p l e R s m args below meth c H locs cells slots Q (F0 m pc ls (.ref (loc 0) :: rest)) :=
  z_get S inX0 hC.1.1.1 hC.2.1 8 (by decide) w_21 rfl hdg kk
theorem x_get_settled (S : CallFix p m c cc nL s args WA RX0) (hC : CX loc n g S0 s H locs) (hdg : decode cc pc = .ok (.getfield 59, 3)) (kk : W p l e R s m args below meth c H locs cells slots Q (F0 m (pc + 3) ls (.int (S0.1 1) :: rest))) : W p l e R s m args below meth c H locs cells slots Q (F0 m pc ls (.ref (loc 0) :: rest)) :=
  z_get S inX0 hC.1.1.1 hC.2.1 9 (by decide) w_28 rfl hdg kk
theorem x_get_pushedCount (S : CallFix p m c cc nL s args WA RX0) (hC : CX loc n g S0 s H locs) (hdg : decode cc pc = .ok (.getfield 62, 3)) (kk : W p l e R s m args below meth c H locs cells slots Q (F0 m (pc + 3) ls (.int (S0.1 2) :: rest))) : W p l e R s m args below meth c H locs cells slots Q (F0 m pc ls (.ref (loc 0) :: rest)) :=
  z_get S inX0 hC.1.1.1 hC.2.1 10 (by decide) w_29 rfl hdg kk
theorem x_get_pushedFirsts (S : CallFix p m c cc nL s args WA RX0) (hC : CX loc n g S0 s H locs) (hdg : decode cc pc = .ok (.getfield 47, 3)) (kk : W p l e R s m args below meth c H locs cells slots Q (F0 m (pc + 3) ls (.ref (loc 6) :: rest))) : W p l e R s m args below meth c H locs cells slots Q (F0 m pc ls (.ref (loc 0) :: rest)) :=
  z_get S inX0 hC.1.1.1 hC.2.1 11 (by decide) w_22 rfl hdg kk
theorem x_get_pushedSeconds (S : CallFix p m c cc nL s args WA RX0) (hC : CX loc n g S0 s H locs) (hdg : decode cc pc = .ok (.getfield 50, 3)) (kk : W p l e R s m args below meth c H locs cells slots Q (F0 m (pc + 3) ls (.ref (loc 7) :: rest))) : W p l e R s m args below meth c H locs cells slots Q (F0 m pc ls (.ref (loc 0) :: rest)) :=
  z_get S inX0 hC.1.1.1 hC.2.1 12 (by decide) w_23 rfl hdg kk
theorem x_get_steps (S : CallFix p m c cc nL s args WA RX0) (hC : CX loc n g S0 s H locs) (hdg : decode cc pc = .ok (.getfield 53, 3)) (kk : W p l e R s m args below meth c H locs cells slots Q (F0 m (pc + 3) ls (.ref (loc 8) :: rest))) : W p l e R s m args below meth c H locs cells slots Q (F0 m pc ls (.ref (loc 0) :: rest)) :=
  z_get S inX0 hC.1.1.1 hC.2.1 13 (by decide) w_24 rfl hdg kk
theorem x_put_relations (S : CallFix p m c cc nL s args WA RX0) (hC : CX loc n g S0 s H locs) {x : Int32} (hdg : decode cc pc = .ok (.putfield 56, 3)) (kk : ∀ (H1 : Heap) (locs1 : List Loc), CX loc n g (sI S0 0 x) s H1 locs1 → W p l e R s m args below meth c H1 locs1 cells slots Q (F0 m (pc + 3) ls rest)) : W p l e R s m args below meth c H locs cells slots Q (F0 m pc ls (.int x :: .ref (loc 0) :: rest)) :=
  z_put S inX0 tyX0 tyX0_ok nmX0 hC.1.1.1 hC.1.2.2 hC.2.1 hC.2.2 4 (by decide) w_27 rfl rfl rfl hdg (fun H1 locs1 hH hS => kk H1 locs1 ⟨hC.1, hH.to (fun k hk => match k, hk with
    | 0, _ => rfl
    | 1, _ => rfl
    | 2, _ => rfl
    | 3, _ => rfl
    | 4, _ => rfl
    | 5, _ => rfl
    | 6, _ => rfl
    | 7, _ => rfl
    | 8, _ => rfl
    | 9, _ => rfl
    | 10, _ => rfl
    | 11, _ => rfl
    | 12, _ => rfl
    | 13, _ => rfl
    | k + 14, h => absurd h (by omega)) (fun _ _ _ _ => rfl), hS⟩)
theorem x_put_settled (S : CallFix p m c cc nL s args WA RX0) (hC : CX loc n g S0 s H locs) {x : Int32} (hdg : decode cc pc = .ok (.putfield 59, 3)) (kk : ∀ (H1 : Heap) (locs1 : List Loc), CX loc n g (sI S0 1 x) s H1 locs1 → W p l e R s m args below meth c H1 locs1 cells slots Q (F0 m (pc + 3) ls rest)) : W p l e R s m args below meth c H locs cells slots Q (F0 m pc ls (.int x :: .ref (loc 0) :: rest)) :=
  z_put S inX0 tyX0 tyX0_ok nmX0 hC.1.1.1 hC.1.2.2 hC.2.1 hC.2.2 9 (by decide) w_28 rfl rfl rfl hdg (fun H1 locs1 hH hS => kk H1 locs1 ⟨hC.1, hH.to (fun k hk => match k, hk with
    | 0, _ => rfl
    | 1, _ => rfl
    | 2, _ => rfl
    | 3, _ => rfl
    | 4, _ => rfl
    | 5, _ => rfl
    | 6, _ => rfl
    | 7, _ => rfl
    | 8, _ => rfl
    | 9, _ => rfl
    | 10, _ => rfl
    | 11, _ => rfl
    | 12, _ => rfl
    | 13, _ => rfl
    | k + 14, h => absurd h (by omega)) (fun _ _ _ _ => rfl), hS⟩)
theorem x_put_pushedCount (S : CallFix p m c cc nL s args WA RX0) (hC : CX loc n g S0 s H locs) {x : Int32} (hdg : decode cc pc = .ok (.putfield 62, 3)) (kk : ∀ (H1 : Heap) (locs1 : List Loc), CX loc n g (sI S0 2 x) s H1 locs1 → W p l e R s m args below meth c H1 locs1 cells slots Q (F0 m (pc + 3) ls rest)) : W p l e R s m args below meth c H locs cells slots Q (F0 m pc ls (.int x :: .ref (loc 0) :: rest)) :=
  z_put S inX0 tyX0 tyX0_ok nmX0 hC.1.1.1 hC.1.2.2 hC.2.1 hC.2.2 10 (by decide) w_29 rfl rfl rfl hdg (fun H1 locs1 hH hS => kk H1 locs1 ⟨hC.1, hH.to (fun k hk => match k, hk with
    | 0, _ => rfl
    | 1, _ => rfl
    | 2, _ => rfl
    | 3, _ => rfl
    | 4, _ => rfl
    | 5, _ => rfl
    | 6, _ => rfl
    | 7, _ => rfl
    | 8, _ => rfl
    | 9, _ => rfl
    | 10, _ => rfl
    | 11, _ => rfl
    | 12, _ => rfl
    | 13, _ => rfl
    | k + 14, h => absurd h (by omega)) (fun _ _ _ _ => rfl), hS⟩)
theorem x_clI {g : Gc} {k : Nat} (hk : k < 8) : clX0 g k = g.2 1 := if_pos hk
theorem x_ild (S : CallFix p m c cc nL s args WA RX0) (hC : CX loc n g S0 s H locs) (hn : n ≤ 40) (k : Nat) (hk : k < 8) {j : Nat} (hj : j < lnX0 n k) (hdg : decode cc pc = .ok (.iaload, 1)) (kk : W p l e R s m args below meth c H locs cells slots Q (F0 m (pc + 1) ls (.int (S0.2.1 k j) :: rest))) : W p l e R s m args below meth c H locs cells slots Q (F0 m pc ls (.int (nI j) :: .ref (loc (k + 1)) :: rest)) :=
  z_ild S hC.2.1 k (by omega) (by rw [x_clI hk]; exact hC.1.1.2.1) hj (lnX0_lt hn k) (if_pos hk) hdg kk
theorem x_ist (S : CallFix p m c cc nL s args WA RX0) (hC : CX loc n g S0 s H locs) (hn : n ≤ 40) (k : Nat) (hk : k < 8) {j : Nat} (hj : j < lnX0 n k) {x : Int32} (hdg : decode cc pc = .ok (.iastore, 1)) (kk : ∀ (H1 : Heap) (locs1 : List Loc), CX loc n g (sA S0 k j x) s H1 locs1 → W p l e R s m args below meth c H1 locs1 cells slots Q (F0 m (pc + 1) ls rest)) : W p l e R s m args below meth c H locs cells slots Q (F0 m pc ls (.int x :: .int (nI j) :: .ref (loc (k + 1)) :: rest)) :=
  z_ist S hC.1.2.2 hC.2.1 hC.2.2 k (by omega) (by rw [x_clI hk]; exact hC.1.1.2.1) hj (lnX0_lt hn k) hdg (fun H1 locs1 hH hS => kk H1 locs1 ⟨hC.1, hH.to (fun _ _ => rfl) (fun a b ha hb => by
    simp only [up2, cX0, sA]
    by_cases h1 : a = k ∧ b = j
    · rw [if_pos h1, if_pos (by omega), if_pos h1]
    · simp only [if_neg h1]), hS⟩)
theorem x_aald (S : CallFix p m c cc nL s args WA RX0) (hC : CX loc n g S0 s H locs) {r : Nat} (hr : r < 12) (hdg : decode cc pc = .ok (.aaload, 1)) (kk : W p l e R s m args below meth c H locs cells slots Q (F0 m (pc + 1) ls (.ref (loc (10 + r)) :: rest))) : W p l e R s m args below meth c H locs cells slots Q (F0 m pc ls (.int (nI r) :: .ref (loc 9) :: rest)) :=
  z_ald S hC.2.1 8 (by decide) (ty := .array .long) rfl hC.1.1.2.2.1 (j := r) hr (by show 12 < 2 ^ 31; decide) rfl hdg kk
theorem x_lld (S : CallFix p m c cc nL s args WA RX0) (hC : CX loc n g S0 s H locs) (hn : n ≤ 40) {r a : Nat} (hr : r < 12) (ha : a < n) (hdg : decode cc pc = .ok (.laload, 1)) (kk : W p l e R s m args below meth c H locs cells slots Q (F0 m (pc + 1) ls (.long (S0.2.2 r a) :: rest))) : W p l e R s m args below meth c H locs cells slots Q (F0 m pc ls (.int (nI a) :: .ref (loc (10 + r)) :: rest)) := by
  rw [show 10 + r = (9 + r) + 1 by omega]
  have hl : lnX0 n (9 + r) = n := by rw [Nat.add_comm]; rfl
  refine z_lld S hC.2.1 (9 + r) (by omega) (by rw [show clX0 g (9 + r) = g.2 3 by unfold clX0; rw [if_neg (by omega), if_neg (by omega)]]; exact hC.1.1.2.2.2.1) (by rw [hl]; exact ha) (lnX0_lt hn _) (v := .long (S0.2.2 r a)) ?_ hdg kk
  unfold cX0
  rw [if_neg (by omega), if_neg (by omega), show 9 + r - 9 = r by omega]
theorem x_lst (S : CallFix p m c cc nL s args WA RX0) (hC : CX loc n g S0 s H locs) (hn : n ≤ 40) {r a : Nat} (hr : r < 12) (ha : a < n) {x : Int64} (hdg : decode cc pc = .ok (.lastore, 1)) (kk : ∀ (H1 : Heap) (locs1 : List Loc), CX loc n g (sW S0 r a x) s H1 locs1 → W p l e R s m args below meth c H1 locs1 cells slots Q (F0 m (pc + 1) ls rest)) : W p l e R s m args below meth c H locs cells slots Q (F0 m pc ls (.long x :: .int (nI a) :: .ref (loc (10 + r)) :: rest)) := by
  rw [show 10 + r = (9 + r) + 1 by omega]
  have hl : lnX0 n (9 + r) = n := by rw [Nat.add_comm]; rfl
  refine z_lst S hC.1.2.2 hC.2.1 hC.2.2 (9 + r) (by omega) (by rw [show clX0 g (9 + r) = g.2 3 by unfold clX0; rw [if_neg (by omega), if_neg (by omega)]]; exact hC.1.1.2.2.2.1) (by rw [hl]; exact ha) (lnX0_lt hn _) hdg (fun H1 locs1 hH hS => kk H1 locs1 ⟨hC.1, hH.to (fun _ _ => rfl) (fun i j hi hj => ?_), hS⟩)
  simp only [up2, cX0, sW]
  by_cases h1 : i = 9 + r ∧ j = a
  · rw [if_pos h1, if_neg (by omega), if_neg (by omega), if_pos (by omega)]
  · rw [if_neg h1]
    by_cases h2 : i < 8
    · rw [if_pos h2, if_pos h2]
    · rw [if_neg h2, if_neg h2]
      by_cases h3 : i = 8
      · rw [if_pos h3, if_pos h3]
      · rw [if_neg h3, if_neg h3, if_neg (by omega)]
end XR
section MR
variable {p : Program} {l : Launch} {e : Env} {R : Room} {s : State} {m : MethodId} {args : Array Value} {below : List Frame} {meth : Method} {c : Code} {H : Heap} {locs : List Loc} {cells slots : Nat} {Q : State → Prop}
variable {cc : ByteArray} {pc nL : Nat} {ls : Array Slot} {rest : List Value} {loc : Nat → Nat} {n : Nat} {g : Gc}
variable {S0 : MS}
theorem m_get_code (S : CallFix p m c cc nL s args WA RX1) (hC : CM loc n g S0 s H locs) (hdg : decode cc pc = .ok (.getfield 48, 3)) (kk : W p l e R s m args below meth c H locs cells slots Q (F0 m (pc + 3) ls (.int (S0.1 0) :: rest))) : W p l e R s m args below meth c H locs cells slots Q (F0 m pc ls (.ref (loc 0) :: rest)) :=
  z_get S inX1 hC.1.1.1 hC.2.1 0 (by decide) w_233 rfl hdg kk
theorem m_get_things (S : CallFix p m c cc nL s args WA RX1) (hC : CM loc n g S0 s H locs) (hdg : decode cc pc = .ok (.getfield 41, 3)) (kk : W p l e R s m args below meth c H locs cells slots Q (F0 m (pc + 3) ls (.int (nI n) :: rest))) : W p l e R s m args below meth c H locs cells slots Q (F0 m pc ls (.ref (loc 0) :: rest)) :=
  z_get S inX1 hC.1.1.1 hC.2.1 1 (by decide) w_227 rfl hdg kk
theorem m_get_kinds (S : CallFix p m c cc nL s args WA RX1) (hC : CM loc n g S0 s H locs) (hdg : decode cc pc = .ok (.getfield 7, 3)) (kk : W p l e R s m args below meth c H locs cells slots Q (F0 m (pc + 3) ls (.ref (loc 1) :: rest))) : W p l e R s m args below meth c H locs cells slots Q (F0 m pc ls (.ref (loc 0) :: rest)) :=
  z_get S inX1 hC.1.1.1 hC.2.1 2 (by decide) w_214 rfl hdg kk
theorem m_get_relations (S : CallFix p m c cc nL s args WA RX1) (hC : CM loc n g S0 s H locs) (hdg : decode cc pc = .ok (.getfield 51, 3)) (kk : W p l e R s m args below meth c H locs cells slots Q (F0 m (pc + 3) ls (.int (S0.1 1) :: rest))) : W p l e R s m args below meth c H locs cells slots Q (F0 m pc ls (.ref (loc 0) :: rest)) :=
  z_get S inX1 hC.1.1.1 hC.2.1 3 (by decide) w_212 rfl hdg kk
theorem m_get_form (S : CallFix p m c cc nL s args WA RX1) (hC : CM loc n g S0 s H locs) (hdg : decode cc pc = .ok (.getfield 13, 3)) (kk : W p l e R s m args below meth c H locs cells slots Q (F0 m (pc + 3) ls (.ref (loc 2) :: rest))) : W p l e R s m args below meth c H locs cells slots Q (F0 m pc ls (.ref (loc 0) :: rest)) :=
  z_get S inX1 hC.1.1.1 hC.2.1 4 (by decide) w_218 rfl hdg kk
theorem m_get_one (S : CallFix p m c cc nL s args WA RX1) (hC : CM loc n g S0 s H locs) (hdg : decode cc pc = .ok (.getfield 16, 3)) (kk : W p l e R s m args below meth c H locs cells slots Q (F0 m (pc + 3) ls (.ref (loc 3) :: rest))) : W p l e R s m args below meth c H locs cells slots Q (F0 m pc ls (.ref (loc 0) :: rest)) :=
  z_get S inX1 hC.1.1.1 hC.2.1 5 (by decide) w_219 rfl hdg kk
theorem m_get_two (S : CallFix p m c cc nL s args WA RX1) (hC : CM loc n g S0 s H locs) (hdg : decode cc pc = .ok (.getfield 19, 3)) (kk : W p l e R s m args below meth c H locs cells slots Q (F0 m (pc + 3) ls (.ref (loc 4) :: rest))) : W p l e R s m args below meth c H locs cells slots Q (F0 m pc ls (.ref (loc 0) :: rest)) :=
  z_get S inX1 hC.1.1.1 hC.2.1 6 (by decide) w_220 rfl hdg kk
theorem m_get_pairs (S : CallFix p m c cc nL s args WA RX1) (hC : CM loc n g S0 s H locs) (hdg : decode cc pc = .ok (.getfield 22, 3)) (kk : W p l e R s m args below meth c H locs cells slots Q (F0 m (pc + 3) ls (.ref (loc 9) :: rest))) : W p l e R s m args below meth c H locs cells slots Q (F0 m pc ls (.ref (loc 0) :: rest)) :=
  z_get S inX1 hC.1.1.1 hC.2.1 7 (by decide) w_222 rfl hdg kk
theorem m_get_pushes (S : CallFix p m c cc nL s args WA RX1) (hC : CM loc n g S0 s H locs) (hdg : decode cc pc = .ok (.getfield 54, 3)) (kk : W p l e R s m args below meth c H locs cells slots Q (F0 m (pc + 3) ls (.int (S0.1 2) :: rest))) : W p l e R s m args below meth c H locs cells slots Q (F0 m pc ls (.ref (loc 0) :: rest)) :=
  z_get S inX1 hC.1.1.1 hC.2.1 8 (by decide) w_213 rfl hdg kk
theorem m_get_pushedFirst (S : CallFix p m c cc nL s args WA RX1) (hC : CM loc n g S0 s H locs) (hdg : decode cc pc = .ok (.getfield 26, 3)) (kk : W p l e R s m args below meth c H locs cells slots Q (F0 m (pc + 3) ls (.ref (loc 5) :: rest))) : W p l e R s m args below meth c H locs cells slots Q (F0 m pc ls (.ref (loc 0) :: rest)) :=
  z_get S inX1 hC.1.1.1 hC.2.1 9 (by decide) w_223 rfl hdg kk
theorem m_get_pushedSecond (S : CallFix p m c cc nL s args WA RX1) (hC : CM loc n g S0 s H locs) (hdg : decode cc pc = .ok (.getfield 29, 3)) (kk : W p l e R s m args below meth c H locs cells slots Q (F0 m (pc + 3) ls (.ref (loc 6) :: rest))) : W p l e R s m args below meth c H locs cells slots Q (F0 m pc ls (.ref (loc 0) :: rest)) :=
  z_get S inX1 hC.1.1.1 hC.2.1 10 (by decide) w_224 rfl hdg kk
theorem m_get_tallies (S : CallFix p m c cc nL s args WA RX1) (hC : CM loc n g S0 s H locs) (hdg : decode cc pc = .ok (.getfield 32, 3)) (kk : W p l e R s m args below meth c H locs cells slots Q (F0 m (pc + 3) ls (.ref (loc 7) :: rest))) : W p l e R s m args below meth c H locs cells slots Q (F0 m pc ls (.ref (loc 0) :: rest)) :=
  z_get S inX1 hC.1.1.1 hC.2.1 11 (by decide) w_215 rfl hdg kk
theorem m_get_joined (S : CallFix p m c cc nL s args WA RX1) (hC : CM loc n g S0 s H locs) (hdg : decode cc pc = .ok (.getfield 35, 3)) (kk : W p l e R s m args below meth c H locs cells slots Q (F0 m (pc + 3) ls (.ref (loc 10) :: rest))) : W p l e R s m args below meth c H locs cells slots Q (F0 m pc ls (.ref (loc 0) :: rest)) :=
  z_get S inX1 hC.1.1.1 hC.2.1 12 (by decide) w_225 rfl hdg kk
theorem m_get_steps (S : CallFix p m c cc nL s args WA RX1) (hC : CM loc n g S0 s H locs) (hdg : decode cc pc = .ok (.getfield 38, 3)) (kk : W p l e R s m args below meth c H locs cells slots Q (F0 m (pc + 3) ls (.ref (loc 8) :: rest))) : W p l e R s m args below meth c H locs cells slots Q (F0 m pc ls (.ref (loc 0) :: rest)) :=
  z_get S inX1 hC.1.1.1 hC.2.1 13 (by decide) w_226 rfl hdg kk
theorem m_put_code (S : CallFix p m c cc nL s args WA RX1) (hC : CM loc n g S0 s H locs) {x : Int32} (hdg : decode cc pc = .ok (.putfield 48, 3)) (kk : ∀ (H1 : Heap) (locs1 : List Loc), CM loc n g (sI S0 0 x) s H1 locs1 → W p l e R s m args below meth c H1 locs1 cells slots Q (F0 m (pc + 3) ls rest)) : W p l e R s m args below meth c H locs cells slots Q (F0 m pc ls (.int x :: .ref (loc 0) :: rest)) :=
  z_put S inX1 tyX1 tyX1_ok nmX1 hC.1.1.1 hC.1.2 hC.2.1 hC.2.2 0 (by decide) w_233 rfl rfl rfl hdg (fun H1 locs1 hH hS => kk H1 locs1 ⟨hC.1, hH.to (fun k hk => match k, hk with
    | 0, _ => rfl
    | 1, _ => rfl
    | 2, _ => rfl
    | 3, _ => rfl
    | 4, _ => rfl
    | 5, _ => rfl
    | 6, _ => rfl
    | 7, _ => rfl
    | 8, _ => rfl
    | 9, _ => rfl
    | 10, _ => rfl
    | 11, _ => rfl
    | 12, _ => rfl
    | 13, _ => rfl
    | k + 14, h => absurd h (by omega)) (fun _ _ _ _ => rfl), hS⟩)
theorem m_put_relations (S : CallFix p m c cc nL s args WA RX1) (hC : CM loc n g S0 s H locs) {x : Int32} (hdg : decode cc pc = .ok (.putfield 51, 3)) (kk : ∀ (H1 : Heap) (locs1 : List Loc), CM loc n g (sI S0 1 x) s H1 locs1 → W p l e R s m args below meth c H1 locs1 cells slots Q (F0 m (pc + 3) ls rest)) : W p l e R s m args below meth c H locs cells slots Q (F0 m pc ls (.int x :: .ref (loc 0) :: rest)) :=
  z_put S inX1 tyX1 tyX1_ok nmX1 hC.1.1.1 hC.1.2 hC.2.1 hC.2.2 3 (by decide) w_212 rfl rfl rfl hdg (fun H1 locs1 hH hS => kk H1 locs1 ⟨hC.1, hH.to (fun k hk => match k, hk with
    | 0, _ => rfl
    | 1, _ => rfl
    | 2, _ => rfl
    | 3, _ => rfl
    | 4, _ => rfl
    | 5, _ => rfl
    | 6, _ => rfl
    | 7, _ => rfl
    | 8, _ => rfl
    | 9, _ => rfl
    | 10, _ => rfl
    | 11, _ => rfl
    | 12, _ => rfl
    | 13, _ => rfl
    | k + 14, h => absurd h (by omega)) (fun _ _ _ _ => rfl), hS⟩)
theorem m_put_pushes (S : CallFix p m c cc nL s args WA RX1) (hC : CM loc n g S0 s H locs) {x : Int32} (hdg : decode cc pc = .ok (.putfield 54, 3)) (kk : ∀ (H1 : Heap) (locs1 : List Loc), CM loc n g (sI S0 2 x) s H1 locs1 → W p l e R s m args below meth c H1 locs1 cells slots Q (F0 m (pc + 3) ls rest)) : W p l e R s m args below meth c H locs cells slots Q (F0 m pc ls (.int x :: .ref (loc 0) :: rest)) :=
  z_put S inX1 tyX1 tyX1_ok nmX1 hC.1.1.1 hC.1.2 hC.2.1 hC.2.2 8 (by decide) w_213 rfl rfl rfl hdg (fun H1 locs1 hH hS => kk H1 locs1 ⟨hC.1, hH.to (fun k hk => match k, hk with
    | 0, _ => rfl
    | 1, _ => rfl
    | 2, _ => rfl
    | 3, _ => rfl
    | 4, _ => rfl
    | 5, _ => rfl
    | 6, _ => rfl
    | 7, _ => rfl
    | 8, _ => rfl
    | 9, _ => rfl
    | 10, _ => rfl
    | 11, _ => rfl
    | 12, _ => rfl
    | 13, _ => rfl
    | k + 14, h => absurd h (by omega)) (fun _ _ _ _ => rfl), hS⟩)
theorem m_ild (S : CallFix p m c cc nL s args WA RX1) (hC : CM loc n g S0 s H locs) (k : Nat) (hk : k < 8) {j : Nat} (hj : j < lnX1 k) (hdg : decode cc pc = .ok (.iaload, 1)) (kk : W p l e R s m args below meth c H locs cells slots Q (F0 m (pc + 1) ls (.int (S0.2.1 k j) :: rest))) : W p l e R s m args below meth c H locs cells slots Q (F0 m pc ls (.int (nI j) :: .ref (loc (k + 1)) :: rest)) :=
  z_ild S hC.2.1 k (by omega) (by rw [show clX1 g k = g.2 1 from if_pos hk]; exact hC.1.1.2.1) hj (lnX1_lt k) (if_pos hk) hdg kk
theorem m_ist (S : CallFix p m c cc nL s args WA RX1) (hC : CM loc n g S0 s H locs) (k : Nat) (hk : k < 8) {j : Nat} (hj : j < lnX1 k) {x : Int32} (hdg : decode cc pc = .ok (.iastore, 1)) (kk : ∀ (H1 : Heap) (locs1 : List Loc), CM loc n g (sA S0 k j x) s H1 locs1 → W p l e R s m args below meth c H1 locs1 cells slots Q (F0 m (pc + 1) ls rest)) : W p l e R s m args below meth c H locs cells slots Q (F0 m pc ls (.int x :: .int (nI j) :: .ref (loc (k + 1)) :: rest)) :=
  z_ist S hC.1.2 hC.2.1 hC.2.2 k (by omega) (by rw [show clX1 g k = g.2 1 from if_pos hk]; exact hC.1.1.2.1) hj (lnX1_lt k) hdg (fun H1 locs1 hH hS => kk H1 locs1 ⟨hC.1, hH.to (fun _ _ => rfl) (fun a b ha hb => by
    simp only [up2, cX1, sA]
    by_cases h1 : a = k ∧ b = j
    · rw [if_pos h1, if_pos (by omega), if_pos h1]
    · simp only [if_neg h1]), hS⟩)
theorem m_zld (S : CallFix p m c cc nL s args WA RX1) (hC : CM loc n g S0 s H locs) (k : Nat) (hk : k < 2) {j : Nat} (hj : j < lnX1 (8 + k)) (hdg : decode cc pc = .ok (.baload, 1)) (kk : W p l e R s m args below meth c H locs cells slots Q (F0 m (pc + 1) ls (.int (bI (S0.2.2 k j)) :: rest))) : W p l e R s m args below meth c H locs cells slots Q (F0 m pc ls (.int (nI j) :: .ref (loc (9 + k)) :: rest)) := by
  rw [show 9 + k = (8 + k) + 1 by omega]
  refine z_zld S hC.2.1 (8 + k) (by omega) (by rw [show clX1 g (8 + k) = g.2 2 from if_neg (by omega)]; exact hC.1.1.2.2) hj (lnX1_lt _) (v := .int (bI (S0.2.2 k j))) ?_ hdg kk
  unfold cX1
  rw [if_neg (by omega), show 8 + k - 8 = k by omega]
theorem m_zst (S : CallFix p m c cc nL s args WA RX1) (hC : CM loc n g S0 s H locs) (k : Nat) (hk : k < 2) {j : Nat} (hj : j < lnX1 (8 + k)) {b : Bool} {x : Int32} (hxb : x = bI b) (hdg : decode cc pc = .ok (.bastore, 1)) (kk : ∀ (H1 : Heap) (locs1 : List Loc), CM loc n g (sW S0 k j b) s H1 locs1 → W p l e R s m args below meth c H1 locs1 cells slots Q (F0 m (pc + 1) ls rest)) : W p l e R s m args below meth c H locs cells slots Q (F0 m pc ls (.int x :: .int (nI j) :: .ref (loc (9 + k)) :: rest)) := by
  rw [show 9 + k = (8 + k) + 1 by omega]
  refine z_zst S hC.1.2 hC.2.1 hC.2.2 (8 + k) (by omega) (by rw [show clX1 g (8 + k) = g.2 2 from if_neg (by omega)]; exact hC.1.1.2.2) hj (lnX1_lt _) hxb hdg (fun H1 locs1 hH hS => kk H1 locs1 ⟨hC.1, hH.to (fun _ _ => rfl) (fun a b' ha hb => ?_), hS⟩)
  simp only [up2, cX1, sW]
  by_cases h1 : a = 8 + k ∧ b' = j
  · rw [if_pos h1, if_neg (by omega), if_pos (by omega)]
  · rw [if_neg h1]
    by_cases h2 : a < 8
    · rw [if_pos h2, if_pos h2]
    · rw [if_neg h2, if_neg h2, if_neg (by omega)]
end MR
end
section
theorem cw_RX0_J7_fill_53178 : SW RX0 65 yJ7_fill_53178 cJ7_fill_53178 4 none 2 := ⟨⟨w_30, w_31, w_32, w_25⟩, by decide +kernel⟩
theorem cw_RX0_X0_isThing : VW RX0 183 yX0_isThing cX0_isThing 2 (some .boolean) 1 := ⟨⟨w_37, w_38, w_39, w_40, w_33⟩, by decide +kernel⟩
theorem cw_RX0_X0_needThing : VW RX0 71 yX0_needThing cX0_needThing 2 none 1 := ⟨⟨w_44, w_45, w_46, w_40, w_34⟩, by decide +kernel⟩
theorem cw_RX0_X0_isOfKind : VW RX0 171 yX0_isOfKind cX0_isOfKind 3 (some .boolean) 2 := ⟨⟨w_53, w_54, w_55, w_40, w_50⟩, by decide +kernel⟩
theorem cw_RX0_X0_bit : SW RX0 206 yX0_bit cX0_bit 1 (some .long) 1 := ⟨⟨w_56, w_57, w_40, w_51⟩, by decide +kernel⟩
theorem cw_RX0_X0_needKindOrNone : VW RX0 89 yX0_needKindOrNone cX0_needKindOrNone 2 none 1 := ⟨⟨w_58, w_59, w_60, w_40, w_47⟩, by decide +kernel⟩
theorem cw_RX0_X0_needRoomForRelation : VW RX0 94 yX0_needRoomForRelation cX0_needRoomForRelation 1 none 0 := ⟨⟨w_61, w_62, w_63, w_40, w_48⟩, by decide +kernel⟩
theorem cw_RX0_X0_addRelation : VW RX0 97 yX0_addRelation cX0_addRelation 5 (some .int) 3 := ⟨⟨w_64, w_65, w_66, w_40, w_49⟩, by decide +kernel⟩
theorem cw_RX0_X0_startRows : VW RX0 101 yX0_startRows cX0_startRows 4 none 1 := ⟨⟨w_67, w_68, w_69, w_40, w_52⟩, by decide +kernel⟩
theorem cw_RX0_X0_needRelation : VW RX0 106 yX0_needRelation cX0_needRelation 2 none 1 := ⟨⟨w_74, w_75, w_76, w_40, w_71⟩, by decide +kernel⟩
theorem cw_RX0_X0_takesTwo : SW RX0 109 yX0_takesTwo cX0_takesTwo 1 (some .boolean) 1 := ⟨⟨w_77, w_78, w_40, w_72⟩, by decide +kernel⟩
theorem cw_RX0_X0_isByCondition : VW RX0 197 yX0_isByCondition cX0_isByCondition 2 (some .boolean) 1 := ⟨⟨w_81, w_82, w_83, w_40, w_79⟩, by decide +kernel⟩
theorem cw_RX0_X0_needForm : VW RX0 135 yX0_needForm cX0_needForm 2 none 1 := ⟨⟨w_84, w_85, w_86, w_40, w_80⟩, by decide +kernel⟩
theorem cw_RX0_X0_makeClass : VW RX0 224 yX0_makeClass cX0_makeClass 5 none 2 := ⟨⟨w_93, w_94, w_95, w_40, w_89⟩, by decide +kernel⟩
theorem cw_RX0_X0_goesBothWays : VW RX0 228 yX0_goesBothWays cX0_goesBothWays 2 (some .boolean) 1 := ⟨⟨w_96, w_97, w_98, w_40, w_90⟩, by decide +kernel⟩
theorem cw_RX0_X0_part : VW RX0 132 yX0_part cX0_part 4 none 3 := ⟨⟨w_100, w_101, w_102, w_40, w_91⟩, by decide +kernel⟩
theorem cw_RX0_X0_holds : VW RX0 119 yX0_holds cX0_holds 4 (some .boolean) 3 := ⟨⟨w_103, w_104, w_105, w_40, w_88⟩, by decide +kernel⟩
theorem cw_RX0_X0_pushPair : VW RX0 221 yX0_pushPair cX0_pushPair 4 none 3 := ⟨⟨w_106, w_107, w_108, w_40, w_99⟩, by decide +kernel⟩
theorem cw_RX0_X0_pushRow : VW RX0 215 yX0_pushRow cX0_pushRow 4 none 2 := ⟨⟨w_111, w_112, w_113, w_40, w_109⟩, by decide +kernel⟩
theorem cw_RX0_X0_pushColumn : VW RX0 218 yX0_pushColumn cX0_pushColumn 4 none 2 := ⟨⟨w_114, w_115, w_116, w_40, w_110⟩, by decide +kernel⟩
theorem cw_RX0_X0_needSettable : VW RX0 115 yX0_needSettable cX0_needSettable 4 none 3 := ⟨⟨w_120, w_121, w_122, w_40, w_87⟩, by decide +kernel⟩
theorem cw_RX0_X0_pushOut : VW RX0 123 yX0_pushOut cX0_pushOut 4 none 3 := ⟨⟨w_123, w_124, w_125, w_40, w_117⟩, by decide +kernel⟩
theorem cw_RX0_X0_join : VW RX0 126 yX0_join cX0_join 4 none 3 := ⟨⟨w_126, w_127, w_128, w_40, w_118⟩, by decide +kernel⟩
theorem cw_RX0_X0_makeStale : VW RX0 129 yX0_makeStale cX0_makeStale 2 none 1 := ⟨⟨w_129, w_130, w_131, w_40, w_119⟩, by decide +kernel⟩
theorem cw_RX0_J13_bitCount_95d88 : SW RX0 210 yJ13_bitCount_95d88 cJ13_bitCount_95d88 2 (some .int) 1 := ⟨⟨w_139, w_140, w_141, w_134⟩, by decide +kernel⟩
theorem cw_RX0_X0_pairsOf : VW RX0 138 yX0_pairsOf cX0_pairsOf 4 (some .int) 1 := ⟨⟨w_142, w_143, w_144, w_40, w_138⟩, by decide +kernel⟩
theorem cw_RX0_X0_column : VW RX0 156 yX0_column cX0_column 6 (some .long) 2 := ⟨⟨w_157, w_158, w_159, w_40, w_154⟩, by decide +kernel⟩
theorem cw_RX0_X0_rowThrough : VW RX0 243 yX0_rowThrough cX0_rowThrough 7 (some .long) 3 := ⟨⟨w_160, w_161, w_162, w_40, w_155⟩, by decide +kernel⟩
theorem cw_RX0_X0_workOutFar : VW RX0 236 yX0_workOutFar cX0_workOutFar 4 none 1 := ⟨⟨w_163, w_164, w_165, w_40, w_149⟩, by decide +kernel⟩
theorem cw_RX0_X0_rowBy : VW RX0 239 yX0_rowBy cX0_rowBy 5 (some .long) 4 := ⟨⟨w_166, w_167, w_168, w_40, w_156⟩, by decide +kernel⟩
theorem cw_RX0_X0_workOut : VW RX0 233 yX0_workOut cX0_workOut 4 none 1 := ⟨⟨w_170, w_171, w_172, w_40, w_169⟩, by decide +kernel⟩
theorem cw_RX0_X0_settle : VW RX0 149 yX0_settle cX0_settle 3 none 1 := ⟨⟨w_174, w_175, w_176, w_40, w_173⟩, by decide +kernel⟩
theorem cw_RJ13_J6_numberOfTrailingZeros_0f7a4 : SW RJ13 311 yJ6_numberOfTrailingZeros_0f7a4 cJ6_numberOfTrailingZeros_0f7a4 2 (some .int) 1 := ⟨⟨w_181, w_182, w_183, w_178⟩, by decide +kernel⟩
theorem cw_RX0_J13_numberOfTrailingZeros_95d88 : SW RX0 177 yJ13_numberOfTrailingZeros_95d88 cJ13_numberOfTrailingZeros_95d88 3 (some .int) 1 := ⟨⟨w_185, w_186, w_141, w_180⟩, by decide +kernel⟩
theorem cw_RX0_X0_pick : VW RX0 152 yX0_pick cX0_pick 7 (some .int) 2 := ⟨⟨w_187, w_188, w_189, w_40, w_184⟩, by decide +kernel⟩
theorem cw_RX0_X0_measureSteps : VW RX0 160 yX0_measureSteps cX0_measureSteps 9 none 2 := ⟨⟨w_194, w_195, w_196, w_40, w_193⟩, by decide +kernel⟩
theorem cw_RX0_X0_stepNearer : VW RX0 166 yX0_stepNearer cX0_stepNearer 4 (some .int) 2 := ⟨⟨w_199, w_200, w_201, w_40, w_198⟩, by decide +kernel⟩
theorem cw_RX1_X1_begin : VW RX1 45 yX1_begin cX1_begin 2 none 0 := ⟨⟨w_228, w_229, w_230, w_231, w_211⟩, by decide +kernel⟩
theorem cw_RX1_X1_isIn : SW RX1 57 yX1_isIn cX1_isIn 3 (some .boolean) 3 := ⟨⟨w_238, w_239, w_231, w_236⟩, by decide +kernel⟩
theorem cw_RX1_X1_isThing : VW RX1 61 yX1_isThing cX1_isThing 2 (some .boolean) 1 := ⟨⟨w_242, w_243, w_244, w_231, w_237⟩, by decide +kernel⟩
theorem cw_RX1_X1_isGood : VW RX1 65 yX1_isGood cX1_isGood 2 (some .boolean) 1 := ⟨⟨w_245, w_246, w_247, w_231, w_235⟩, by decide +kernel⟩
theorem cw_RX1_X1_at : SW RX1 68 yX1_at cX1_at 3 (some .int) 3 := ⟨⟨w_250, w_251, w_231, w_248⟩, by decide +kernel⟩
theorem cw_RX1_X1_make : VW RX1 72 yX1_make cX1_make 6 (some .int) 3 := ⟨⟨w_253, w_254, w_255, w_231, w_249⟩, by decide +kernel⟩
theorem cw_RX1_X1_isRelation : VW RX1 75 yX1_isRelation cX1_isRelation 2 (some .boolean) 1 := ⟨⟨w_256, w_257, w_258, w_231, w_240⟩, by decide +kernel⟩
theorem cw_RX1_X1_far : VW RX1 78 yX1_far cX1_far 5 none 1 := ⟨⟨w_262, w_263, w_264, w_231, w_260⟩, by decide +kernel⟩
theorem cw_RX1_X1_work : VW RX1 82 yX1_work cX1_work 8 none 1 := ⟨⟨w_266, w_267, w_268, w_231, w_261⟩, by decide +kernel⟩
theorem cw_RX1_X1_isOf : SW RX1 85 yX1_isOf cX1_isOf 2 (some .boolean) 2 := ⟨⟨w_271, w_272, w_231, w_269⟩, by decide +kernel⟩
theorem cw_RX1_X1_put : VW RX1 89 yX1_put cX1_put 5 none 4 := ⟨⟨w_275, w_276, w_277, w_231, w_273⟩, by decide +kernel⟩
theorem cw_RX1_X1_push : VW RX1 93 yX1_push cX1_push 4 none 3 := ⟨⟨w_279, w_280, w_281, w_231, w_274⟩, by decide +kernel⟩
theorem cw_RX1_X1_whyNot : VW RX1 97 yX1_whyNot cX1_whyNot 5 (some .int) 3 := ⟨⟨w_284, w_285, w_286, w_231, w_270⟩, by decide +kernel⟩
theorem cw_RX1_X1_pushFrom : VW RX1 100 yX1_pushFrom cX1_pushFrom 4 none 2 := ⟨⟨w_287, w_288, w_289, w_231, w_278⟩, by decide +kernel⟩
theorem cw_RX1_X1_pushTo : VW RX1 104 yX1_pushTo cX1_pushTo 4 none 2 := ⟨⟨w_290, w_291, w_292, w_231, w_282⟩, by decide +kernel⟩
theorem cw_RX1_X1_join : VW RX1 107 yX1_join cX1_join 6 none 3 := ⟨⟨w_293, w_294, w_295, w_231, w_283⟩, by decide +kernel⟩
theorem cw_RX1_X1_part : VW RX1 110 yX1_part cX1_part 4 none 2 := ⟨⟨w_298, w_299, w_300, w_231, w_297⟩, by decide +kernel⟩
theorem cw_RX1_X1_countOf : VW RX1 113 yX1_countOf cX1_countOf 4 (some .int) 1 := ⟨⟨w_304, w_305, w_306, w_231, w_302⟩, by decide +kernel⟩
theorem cw_RX1_X1_learn : VW RX1 117 yX1_learn cX1_learn 3 none 1 := ⟨⟨w_308, w_309, w_310, w_231, w_265⟩, by decide +kernel⟩
theorem cw_RX1_X1_beside : VW RX1 120 yX1_beside cX1_beside 7 (some .int) 4 := ⟨⟨w_313, w_314, w_315, w_231, w_312⟩, by decide +kernel⟩
theorem cw_RX1_X1_besideOr : VW RX1 124 yX1_besideOr cX1_besideOr 6 (some .int) 4 := ⟨⟨w_317, w_318, w_319, w_231, w_316⟩, by decide +kernel⟩
theorem cw_RX1_X1_measure : VW RX1 127 yX1_measure cX1_measure 6 none 2 := ⟨⟨w_324, w_325, w_326, w_231, w_323⟩, by decide +kernel⟩
theorem cw_RL_X0_kind : VW RL 7 yX0_kind cX0_kind 4 (some .int) 2 := ⟨⟨w_341, w_342, w_343, w_40, w_41⟩, by decide +kernel⟩
theorem cw_RL_X0_relation : VW RL 17 yX0_relation cX0_relation 5 (some .int) 3 := ⟨⟨w_344, w_345, w_346, w_40, w_70⟩, by decide +kernel⟩
theorem cw_RL_X0_condition : VW RL 21 yX0_condition cX0_condition 4 (some .int) 3 := ⟨⟨w_348, w_349, w_350, w_40, w_73⟩, by decide +kernel⟩
theorem cw_RL_X0_set : VW RL 24 yX0_set cX0_set 4 (some .int) 3 := ⟨⟨w_352, w_353, w_354, w_40, w_132⟩, by decide +kernel⟩
theorem cw_RL_X0_drop : VW RL 27 yX0_drop cX0_drop 4 (some .boolean) 3 := ⟨⟨w_356, w_357, w_358, w_40, w_133⟩, by decide +kernel⟩
theorem cw_RL_X0_empty : VW RL 31 yX0_empty cX0_empty 3 (some .int) 1 := ⟨⟨w_360, w_361, w_362, w_40, w_145⟩, by decide +kernel⟩
theorem cw_RL_X0_pushed : VW RL 35 yX0_pushed cX0_pushed 3 (some .int) 2 := ⟨⟨w_366, w_367, w_368, w_40, w_146⟩, by decide +kernel⟩
theorem cw_RL_X0_has : VW RL 40 yX0_has cX0_has 4 (some .boolean) 3 := ⟨⟨w_369, w_370, w_371, w_40, w_177⟩, by decide +kernel⟩
theorem cw_RL_X0_next : VW RL 43 yX0_next cX0_next 4 (some .int) 3 := ⟨⟨w_373, w_374, w_375, w_40, w_190⟩, by decide +kernel⟩
theorem cw_RL_X0_back : VW RL 46 yX0_back cX0_back 4 (some .int) 3 := ⟨⟨w_377, w_378, w_379, w_40, w_191⟩, by decide +kernel⟩
theorem cw_RL_X0_count : VW RL 49 yX0_count cX0_count 2 (some .int) 1 := ⟨⟨w_381, w_382, w_383, w_40, w_192⟩, by decide +kernel⟩
theorem cw_RL_X0_length : VW RL 52 yX0_length cX0_length 4 (some .int) 3 := ⟨⟨w_385, w_386, w_387, w_40, w_197⟩, by decide +kernel⟩
theorem cw_RL_X0_route : VW RL 55 yX0_route cX0_route 7 (some .int) 4 := ⟨⟨w_389, w_390, w_391, w_40, w_202⟩, by decide +kernel⟩
theorem cw_RL_X0_leader : VW RL 59 yX0_leader cX0_leader 3 (some .int) 2 := ⟨⟨w_393, w_394, w_395, w_40, w_203⟩, by decide +kernel⟩
theorem cw_RL_X0_differ : VW RL 62 yX0_differ cX0_differ 6 (some .int) 2 := ⟨⟨w_397, w_398, w_399, w_40, w_204⟩, by decide +kernel⟩
theorem cw_RL_X0_tally : VW RL 65 yX0_tally cX0_tally 3 (some .int) 2 := ⟨⟨w_403, w_404, w_405, w_40, w_205⟩, by decide +kernel⟩
theorem cw_RL_X0_of : VW RL 70 yX0_of cX0_of 2 (some .int) 1 := ⟨⟨w_407, w_408, w_409, w_40, w_209⟩, by decide +kernel⟩
theorem cw_RL_X0_told : VW RL 73 yX0_told cX0_told 3 (some .int) 2 := ⟨⟨w_411, w_412, w_413, w_40, w_210⟩, by decide +kernel⟩
theorem cw_RL_L_cell : SW RL 76 yL_cell cL_cell 2 (some .int) 2 := ⟨⟨w_418, w_419, w_420, w_337⟩, by decide +kernel⟩
theorem cw_RL_X0_clear : VW RL 88 yX0_clear cX0_clear 2 (some .int) 0 := ⟨⟨w_425, w_426, w_427, w_40, w_26⟩, by decide +kernel⟩
theorem cw_RL_X1_clear : VW RL 92 yX1_clear cX1_clear 2 (some .int) 0 := ⟨⟨w_428, w_429, w_430, w_231, w_234⟩, by decide +kernel⟩
theorem cw_RL_X1_kind : VW RL 96 yX1_kind cX1_kind 4 (some .int) 2 := ⟨⟨w_433, w_434, w_435, w_231, w_241⟩, by decide +kernel⟩
theorem cw_RL_X1_thrown : VW RL 97 yX1_thrown cX1_thrown 1 (some .int) 0 := ⟨⟨w_436, w_437, w_438, w_231, w_232⟩, by decide +kernel⟩
theorem cw_RL_X1_relation : VW RL 103 yX1_relation cX1_relation 5 (some .int) 3 := ⟨⟨w_441, w_442, w_443, w_231, w_252⟩, by decide +kernel⟩
theorem cw_RL_X1_condition : VW RL 106 yX1_condition cX1_condition 6 (some .int) 3 := ⟨⟨w_446, w_447, w_448, w_231, w_259⟩, by decide +kernel⟩
theorem cw_RL_X1_set : VW RL 109 yX1_set cX1_set 5 (some .int) 3 := ⟨⟨w_451, w_452, w_453, w_231, w_296⟩, by decide +kernel⟩
theorem cw_RL_X1_drop : VW RL 112 yX1_drop cX1_drop 5 (some .boolean) 3 := ⟨⟨w_456, w_457, w_458, w_231, w_301⟩, by decide +kernel⟩
theorem cw_RL_X1_empty : VW RL 116 yX1_empty cX1_empty 5 (some .int) 1 := ⟨⟨w_461, w_462, w_463, w_231, w_303⟩, by decide +kernel⟩
theorem cw_RL_X1_pushed : VW RL 119 yX1_pushed cX1_pushed 3 (some .int) 2 := ⟨⟨w_466, w_467, w_468, w_231, w_307⟩, by decide +kernel⟩
theorem cw_RL_X1_has : VW RL 122 yX1_has cX1_has 4 (some .boolean) 3 := ⟨⟨w_471, w_472, w_473, w_231, w_311⟩, by decide +kernel⟩
theorem cw_RL_X1_next : VW RL 125 yX1_next cX1_next 4 (some .int) 3 := ⟨⟨w_476, w_477, w_478, w_231, w_320⟩, by decide +kernel⟩
theorem cw_RL_X1_back : VW RL 128 yX1_back cX1_back 4 (some .int) 3 := ⟨⟨w_481, w_482, w_483, w_231, w_321⟩, by decide +kernel⟩
theorem cw_RL_X1_count : VW RL 131 yX1_count cX1_count 2 (some .int) 1 := ⟨⟨w_486, w_487, w_488, w_231, w_322⟩, by decide +kernel⟩
theorem cw_RL_X1_length : VW RL 134 yX1_length cX1_length 4 (some .int) 3 := ⟨⟨w_491, w_492, w_493, w_231, w_327⟩, by decide +kernel⟩
theorem cw_RL_X1_route : VW RL 138 yX1_route cX1_route 8 (some .int) 4 := ⟨⟨w_496, w_497, w_498, w_231, w_328⟩, by decide +kernel⟩
theorem cw_RL_X1_leader : VW RL 141 yX1_leader cX1_leader 4 (some .int) 2 := ⟨⟨w_501, w_502, w_503, w_231, w_329⟩, by decide +kernel⟩
theorem cw_RL_X1_differ : VW RL 144 yX1_differ cX1_differ 4 (some .int) 2 := ⟨⟨w_506, w_507, w_508, w_231, w_330⟩, by decide +kernel⟩
theorem cw_RL_X1_tally : VW RL 147 yX1_tally cX1_tally 3 (some .int) 2 := ⟨⟨w_511, w_512, w_513, w_231, w_331⟩, by decide +kernel⟩
theorem cw_RL_X1_of : VW RL 150 yX1_of cX1_of 2 (some .int) 1 := ⟨⟨w_516, w_517, w_518, w_231, w_332⟩, by decide +kernel⟩
theorem cw_RL_X1_told : VW RL 153 yX1_told cX1_told 3 (some .int) 2 := ⟨⟨w_521, w_522, w_523, w_231, w_333⟩, by decide +kernel⟩
section XT
variable {p : Program} {l : Launch} {e : Env} {R : Room} {s : State} {m : MethodId} {args : Array Value} {below : List Frame} {meth : Method} {c : Code} {H : Heap} {locs : List Loc} {cells slots : Nat} {Q : State → Prop}
variable {cc : ByteArray} {pc nL : Nat} {ls : Array Slot} {rest : List Value} {loc : Nat → Nat} {n : Nat} {g : Gc} {S0 : RS} {Qc : Array Value → State → Outcome → State → Prop} {X : String → Prop} {mc ms is : Nat} {tx : String}
theorem x_throw_iae (hl : l.stackTraces = false) (S : CallFix p m c cc nL s args WA RX0) (hC : CX loc n g S0 s H locs) (hs : (is, tx) ∈ strsX) (hnt : ∀ x ∈ c.exceptionTable.toList, False) (hlocks : meth.locks = false) (hsz : ls.size = nL) (hX : X "java/lang/IllegalArgumentException")
    (d0 : decode cc pc = .ok (.new 75, 3)) (d3 : decode cc (pc + 3) = .ok (.dup, 1)) (d4 : decode cc (pc + 4) = .ok (.ldc is, 2)) (d6 : decode cc (pc + 6) = .ok (.invokespecial 79, 3)) (d9 : decode cc (pc + 9) = .ok (.athrow, 1))
    (hR : 5 < R.frames ∧ (rest.map fun v => v.category).sum + 82 ≤ R.locals ∧ cells + 1 ≤ R.cells ∧ slots + 6 ≤ R.slots) (hm : cells + 1 ≤ mc ∧ slots + 6 ≤ ms) : W p l e R s m args below meth c H locs cells slots (vx_MQ below Qc (Xc (HX loc n g) S0 (ZA loc 21) X) args s mc ms (ZA loc 21)) (F0 m pc ls rest) := by
  obtain ⟨⟨hK, ⟨h4, hU, hN, hst⟩, hJ⟩, hH, hS⟩ := hC
  obtain ⟨sa, hsa⟩ := hst _ hs
  exact vx_throwS (cls := "java/lang/IllegalArgumentException") (names := ["java/lang/RuntimeException", "java/lang/Exception"]) (ik := 75) (ic := 79) S.1 S.2.1 hl S.2.2.2.1 (by decide) (by decide) (S.2.2.2.2 _ w_35) (S.2.2.2.2 _ w_36) hsa (vx_hat (fun w hw => S.2.2.2.2 w (xw_iae w hw)) (B := xwN) (by decide +kernel) (fun w hw => va_Nw.use (nw_tab hw) (h4 w hw))) (by decide +kernel) hU hN hS (hsz.trans S.2.2.1.symm) d0 d3 d4 d6 d9 (fun x hx => (hnt x hx).elim) hR.1 hR.2.1 hR.2.2.1 hR.2.2.2 hlocks
    (fun t hvm hz hk => ⟨(), trivial, ⟨hX, hH.kept (fun i hi => by
      have hi2 : loc i < H.size := by
        rcases Nat.eq_zero_or_pos i with h0 | h0
        · subst h0
          obtain ⟨cell, q1, -⟩ := hH.1
          exact (Array.getElem?_eq_some_iff.mp q1).1
        · have q1 := hH.2 (i - 1) (by omega)
          rw [show i - 1 + 1 = i by omega] at q1
          exact (Array.getElem?_eq_some_iff.mp q1).1
      exact hk _ hi2)⟩, ⟨Nat.le_trans hS.1 hz, fun q h1 h2 => by rw [hk q (Nat.lt_of_lt_of_le h1 hS.1)]; exact hS.2.1 q h1 h2⟩⟩) hS.2.2 hm.1 hm.2
theorem x_throw_ise (hl : l.stackTraces = false) (S : CallFix p m c cc nL s args WA RX0) (hC : CX loc n g S0 s H locs) (hs : (is, tx) ∈ strsX) (hnt : ∀ x ∈ c.exceptionTable.toList, False) (hlocks : meth.locks = false) (hsz : ls.size = nL) (hX : X "java/lang/IllegalStateException")
    (d0 : decode cc pc = .ok (.new 82, 3)) (d3 : decode cc (pc + 3) = .ok (.dup, 1)) (d4 : decode cc (pc + 4) = .ok (.ldc is, 2)) (d6 : decode cc (pc + 6) = .ok (.invokespecial 86, 3)) (d9 : decode cc (pc + 9) = .ok (.athrow, 1))
    (hR : 5 < R.frames ∧ (rest.map fun v => v.category).sum + 82 ≤ R.locals ∧ cells + 1 ≤ R.cells ∧ slots + 6 ≤ R.slots) (hm : cells + 1 ≤ mc ∧ slots + 6 ≤ ms) : W p l e R s m args below meth c H locs cells slots (vx_MQ below Qc (Xc (HX loc n g) S0 (ZA loc 21) X) args s mc ms (ZA loc 21)) (F0 m pc ls rest) := by
  obtain ⟨⟨hK, ⟨h4, hU, hN, hst⟩, hJ⟩, hH, hS⟩ := hC
  obtain ⟨sa, hsa⟩ := hst _ hs
  exact vx_throwS (cls := "java/lang/IllegalStateException") (names := ["java/lang/RuntimeException", "java/lang/Exception"]) (ik := 82) (ic := 86) S.1 S.2.1 hl S.2.2.2.1 (by decide) (by decide) (S.2.2.2.2 _ w_42) (S.2.2.2.2 _ w_43) hsa (vx_hat (fun w hw => S.2.2.2.2 w (xw_ise w hw)) (B := xwN) (by decide +kernel) (fun w hw => va_Nw.use (nw_tab hw) (h4 w hw))) (by decide +kernel) hU hN hS (hsz.trans S.2.2.1.symm) d0 d3 d4 d6 d9 (fun x hx => (hnt x hx).elim) hR.1 hR.2.1 hR.2.2.1 hR.2.2.2 hlocks
    (fun t hvm hz hk => ⟨(), trivial, ⟨hX, hH.kept (fun i hi => by
      have hi2 : loc i < H.size := by
        rcases Nat.eq_zero_or_pos i with h0 | h0
        · subst h0
          obtain ⟨cell, q1, -⟩ := hH.1
          exact (Array.getElem?_eq_some_iff.mp q1).1
        · have q1 := hH.2 (i - 1) (by omega)
          rw [show i - 1 + 1 = i by omega] at q1
          exact (Array.getElem?_eq_some_iff.mp q1).1
      exact hk _ hi2)⟩, ⟨Nat.le_trans hS.1 hz, fun q h1 h2 => by rw [hk q (Nat.lt_of_lt_of_le h1 hS.1)]; exact hS.2.1 q h1 h2⟩⟩) hS.2.2 hm.1 hm.2
end XT
end
section
/-! numbers and bits -/
theorem n_inc (a : Nat) : nI a + Int32.ofInt 1 = nI (a + 1) := nI_1 a
def inI (x y : Int32) : Bool := decide (¬ x < 0) && decide (x < y)
theorem inI_t {x : Int32} {n : Nat} (hn : n < 2 ^ 31) (h : inI x (nI n) = true) : ∃ j, j < n ∧ x = nI j := by
  simp only [inI, Bool.and_eq_true, decide_eq_true_eq] at h
  obtain ⟨j, h1, h2, -⟩ := pk_mu h.1 (Int32.not_le.mpr h.2) hn
  exact ⟨j, h1, h2⟩
theorem inI_nI {j n : Nat} (hj : j < n) (hn : n < 2 ^ 31) : inI (nI j) (nI n) = true := by
  simp only [inI, Bool.and_eq_true, decide_eq_true_eq]
  exact ⟨nI_pos (by omega), (nI_ltI (by omega) hn).mpr hj⟩
def bitL (x : Int32) : Int64 := (1 : Int64) <<< (x.toInt64 &&& 63)
def bitN (b : Nat) : Int64 := bitL (nI b)
def tb (v : Int64) (b : Nat) : Bool := v.toBitVec.getLsbD b
theorem bitN_bv : ∀ b, b < 64 → (bitN b).toBitVec = BitVec.twoPow 64 b := by decide +kernel
theorem tb_ext {x y : Int64} (h : ∀ i, i < 64 → tb x i = tb y i) : x = y := by
  refine Int64.toBitVec_inj.mp (BitVec.eq_of_getLsbD_eq fun i hi => ?_)
  exact h i hi
theorem tb_and (x y : Int64) (i : Nat) : tb (x &&& y) i = (tb x i && tb y i) := by simp [tb]
theorem tb_or (x y : Int64) (i : Nat) : tb (x ||| y) i = (tb x i || tb y i) := by simp [tb]
theorem tb_xor (x y : Int64) (i : Nat) : tb (x ^^^ y) i = (tb x i ^^ tb y i) := by simp [tb]
theorem tb_big {x : Int64} {i : Nat} (h : 64 ≤ i) : tb x i = false := BitVec.getLsbD_of_ge _ _ h
theorem tb_0 (i : Nat) : tb 0 i = false := by simp [tb]
theorem tb_m1 : ∀ i, i < 64 → tb (-1) i = true := by decide +kernel
theorem tb_bit {b : Nat} (hb : b < 64) (i : Nat) : tb (bitN b) i = decide (i = b) := by
  unfold tb
  rw [bitN_bv b hb]
  simp only [BitVec.getLsbD_twoPow]
  by_cases h : i = b
  · subst h
    simp [hb]
  · simp [h, Ne.symm h]
theorem tb_zero {v : Int64} : v = 0 ↔ ∀ i, i < 64 → tb v i = false := by
  constructor
  · intro h i _
    rw [h, tb_0]
  · intro h
    exact tb_ext fun i hi => by rw [h i hi, tb_0]
theorem tb_test {v : Int64} {b : Nat} (hb : b < 64) : v &&& bitN b = 0 ↔ tb v b = false := by
  rw [tb_zero]
  constructor
  · intro h
    have := h b hb
    rw [tb_and, tb_bit hb] at this
    simpa using this
  · intro h i hi
    rw [tb_and, tb_bit hb]
    by_cases e : i = b
    · subst e
      simp [h]
    · simp [e]
abbrev iaeS : String := "java/lang/IllegalArgumentException"
abbrev iseS : String := "java/lang/IllegalStateException"
abbrev nseS : String := "java/util/NoSuchElementException"
abbrev aioS : String := "java/lang/ArrayIndexOutOfBoundsException"
def rmL (d mc ms : Nat) : Room := { frames := d, cells := mc, slots := ms, locals := 40 * d }
/-! contracts of RelationRows' methods -/
abbrev MXi (l : Launch) (y : MethodName) (cc : ByteArray) (maxL : Nat) (ret : Option FieldType) (rm : Room) (loc : Nat → Nat) (n : Nat) (g : Gc) (S0 : RS) (As : List Value) (post : Int32 → RS → Prop) : Prop :=
  Met l y (wsM y cc maxL ret) rm (PcO (HX loc n g) (EvX loc g) S0 (.ref (loc 0) :: As)) (va_Qi post (fun S' t => HX loc n g S' t.heap) (ZA loc 21)) rm.cells rm.slots (ZA loc 21)
abbrev MXl (l : Launch) (y : MethodName) (cc : ByteArray) (maxL : Nat) (ret : Option FieldType) (rm : Room) (loc : Nat → Nat) (n : Nat) (g : Gc) (S0 : RS) (As : List Value) (post : Int64 → RS → Prop) : Prop :=
  Met l y (wsM y cc maxL ret) rm (PcO (HX loc n g) (EvX loc g) S0 (.ref (loc 0) :: As)) (va_Ql post (fun S' t => HX loc n g S' t.heap) (ZA loc 21)) rm.cells rm.slots (ZA loc 21)
abbrev MXv (l : Launch) (y : MethodName) (cc : ByteArray) (maxL : Nat) (ret : Option FieldType) (rm : Room) (loc : Nat → Nat) (n : Nat) (g : Gc) (S0 : RS) (As : List Value) (post : RS → Prop) : Prop :=
  Met l y (wsM y cc maxL ret) rm (PcO (HX loc n g) (EvX loc g) S0 (.ref (loc 0) :: As)) (va_Qv post (fun S' t => HX loc n g S' t.heap) (ZA loc 21)) rm.cells rm.slots (ZA loc 21)
abbrev TXi (l : Launch) (y : MethodName) (cc : ByteArray) (maxL : Nat) (ret : Option FieldType) (rm : Room) (loc : Nat → Nat) (n : Nat) (g : Gc) (S0 : RS) (As : List Value) (post : Int32 → RS → Prop) (X : String → Prop) : Prop :=
  vx_Met l y (wsM y cc maxL ret) rm (PcO (HX loc n g) (EvX loc g) S0 (.ref (loc 0) :: As)) (va_Qi post (fun S' t => HX loc n g S' t.heap) (ZA loc 21)) (Xc (HX loc n g) S0 (ZA loc 21) X) rm.cells rm.slots (ZA loc 21)
abbrev TXv (l : Launch) (y : MethodName) (cc : ByteArray) (maxL : Nat) (ret : Option FieldType) (rm : Room) (loc : Nat → Nat) (n : Nat) (g : Gc) (S0 : RS) (As : List Value) (post : RS → Prop) (X : String → Prop) : Prop :=
  vx_Met l y (wsM y cc maxL ret) rm (PcO (HX loc n g) (EvX loc g) S0 (.ref (loc 0) :: As)) (va_Qv post (fun S' t => HX loc n g S' t.heap) (ZA loc 21)) (Xc (HX loc n g) S0 (ZA loc 21) X) rm.cells rm.slots (ZA loc 21)
abbrev MMi (l : Launch) (y : MethodName) (cc : ByteArray) (maxL : Nat) (ret : Option FieldType) (rm : Room) (loc : Nat → Nat) (n : Nat) (g : Gc) (S0 : MS) (As : List Value) (post : Int32 → MS → Prop) : Prop :=
  Met l y (wsM y cc maxL ret) rm (PcO (HM loc n g) (EvM loc g) S0 (.ref (loc 0) :: As)) (va_Qi post (fun S' t => HM loc n g S' t.heap) (ZA loc 10)) rm.cells rm.slots (ZA loc 10)
abbrev MMv (l : Launch) (y : MethodName) (cc : ByteArray) (maxL : Nat) (ret : Option FieldType) (rm : Room) (loc : Nat → Nat) (n : Nat) (g : Gc) (S0 : MS) (As : List Value) (post : MS → Prop) : Prop :=
  Met l y (wsM y cc maxL ret) rm (PcO (HM loc n g) (EvM loc g) S0 (.ref (loc 0) :: As)) (va_Qv post (fun S' t => HM loc n g S' t.heap) (ZA loc 10)) rm.cells rm.slots (ZA loc 10)
abbrev MSi (l : Launch) (y : MethodName) (cc : ByteArray) (maxL : Nat) (ret : Option FieldType) (rm : Room) (As : List Value) (post : Int32 → Prop) : Prop := Met l y (wsM y cc maxL ret) rm (va_Pc As (fun _ => True)) (qSi post) 0 0 (fun _ => False)
abbrev MSl (l : Launch) (y : MethodName) (cc : ByteArray) (maxL : Nat) (ret : Option FieldType) (rm : Room) (As : List Value) (post : Int64 → Prop) : Prop := Met l y (wsM y cc maxL ret) rm (va_Pc As (fun _ => True)) (qSl post) 0 0 (fun _ => False)
end
section
set_option maxRecDepth 100000 in
set_option maxHeartbeats 4000000 in
theorem c_X0_bit (l : Launch) (x : Int32) : MSl l yX0_bit cX0_bit 1 (some .long) (rmL 1 0 0) [.int x] (fun r => r = bitL x) := by
  refine s_enter (by decide) (Nat.le_of_ble_eq_true rfl) ?_
  intro p e s m below meth c ls S hr hlocks hl
  refine lv_lconst (v := 1) S.1 S.2.1 dX0_bit_0 rfl ?_
  refine lv_iload_n S.1 S.2.1 dX0_bit_1 rfl (lv_at hl 0 rfl) ?_
  refine lv_lshl S.1 S.2.1 dX0_bit_2 rfl ?_
  exact s_lret S hr hlocks rfl dX0_bit_3
set_option maxRecDepth 100000 in
set_option maxHeartbeats 4000000 in
theorem c_X0_isThing (l : Launch) {loc : Nat → Nat} {n : Nat} {g : Gc} (hn : n ≤ 40) {S0 : RS} (x : Int32) : MXi l yX0_isThing cX0_isThing 2 (some .boolean) (rmL 1 0 0) loc n g S0 [.int x] (fun r S' => S' = S0 ∧ r = bI (inI x (nI n))) := by
  refine o_enter (by decide) (Nat.le_of_ble_eq_true rfl) ?_
  intro p e s m below meth c ls S hr hlocks hC hl
  refine lv_iload_n S.1 S.2.1 dX0_isThing_0 rfl (lv_at hl 1 rfl) ?_
  refine lv_if_lt (tgt := 16) S.1 S.2.1 dX0_isThing_1 (by decide) (fun c1 => ?_) (fun c1 => ?_)
  · skip
    refine lv_iconst (v := 0) S.1 S.2.1 dX0_isThing_16 rfl ?_
    exact o_iret S hr hlocks hC ⟨rfl, by simp [inI, c1, bI]⟩ rfl dX0_isThing_17 (Nat.le_of_ble_eq_true rfl) (Nat.le_of_ble_eq_true rfl)
  · skip
    refine lv_iload_n S.1 S.2.1 dX0_isThing_4 rfl (lv_at hl 1 rfl) ?_
    refine lv_aload_n S.1 S.2.1 dX0_isThing_5 rfl (lv_at hl 0 rfl) ?_
    refine x_get_things S hC dX0_isThing_6 ?_
    refine lv_icmp_ge (tgt := 16) S.1 S.2.1 dX0_isThing_9 (by decide) (fun c9 => ?_) (fun c9 => ?_)
    · skip
      refine lv_iconst (v := 0) S.1 S.2.1 dX0_isThing_16 rfl ?_
      exact o_iret S hr hlocks hC ⟨rfl, by simp [inI, c1, bI, Int32.not_lt.mpr c9]⟩ rfl dX0_isThing_17 (Nat.le_of_ble_eq_true rfl) (Nat.le_of_ble_eq_true rfl)
    · skip
      refine lv_iconst (v := 1) S.1 S.2.1 dX0_isThing_12 rfl ?_
      refine lv_goto (tgt := 17) S.1 S.2.1 dX0_isThing_13 (by decide) ?_
      exact o_iret S hr hlocks hC ⟨rfl, by simp [inI, c1, bI, Int32.not_le.mp c9]⟩ rfl dX0_isThing_17 (Nat.le_of_ble_eq_true rfl) (Nat.le_of_ble_eq_true rfl)
set_option maxRecDepth 100000 in
set_option maxHeartbeats 4000000 in
theorem c_X0_needThing (l : Launch) (hs0 : l.stackTraces = false) {loc : Nat → Nat} {n : Nat} {g : Gc} (hn : n ≤ 40) {S0 : RS} (x : Int32) : TXv l yX0_needThing cX0_needThing 2 none (rmL 7 1 6) loc n g S0 [.int x] (fun S' => S' = S0 ∧ inI x (nI n) = true) (fun E => E = iaeS ∧ inI x (nI n) = false) := by
  refine o_enterx (by decide) (Nat.le_of_ble_eq_true rfl) ?_
  intro p e s m below meth c ls S hr hlocks hnt hC hl
  refine lv_aload_n S.1 S.2.1 dX0_needThing_0 rfl (lv_at hl 0 rfl) ?_
  refine lv_iload_n S.1 S.2.1 dX0_needThing_1 rfl (lv_at hl 1 rfl) ?_
  refine o_calli oiX S hC (c_X0_isThing l hn x) cw_RX0_X0_isThing ⟨rfl, rfl, by decide, by decide⟩ rfl hl.1 rfl (Nat.le_of_ble_eq_true rfl) dX0_needThing_2 ⟨(Nat.le_of_ble_eq_true rfl), (Nat.le_of_ble_eq_true rfl)⟩ (fun r2 S1 H locs hp hC1 => ?_)
  obtain ⟨e1, hp⟩ := hp
  rw [e1] at hC1; replace hC := hC1
  subst hp
  refine b_if_ne (tgt := 18) S.1 S.2.1 dX0_needThing_5 (by decide) (fun c5 => ?_) (fun c5 => ?_)
  · skip
    exact vx_ret (o_vret S hr hlocks hC ⟨rfl, c5⟩ dX0_needThing_18 (Nat.le_of_ble_eq_true rfl) (Nat.le_of_ble_eq_true rfl))
  · skip
    exact x_throw_iae (tx := "no such thing") hs0 S hC (by decide) hnt hlocks hl.1 ⟨rfl, c5⟩ dX0_needThing_8 dX0_needThing_11 dX0_needThing_12 dX0_needThing_14 dX0_needThing_17 ⟨(Nat.le_of_ble_eq_true rfl), (Nat.le_of_ble_eq_true rfl), (Nat.le_of_ble_eq_true rfl), (Nat.le_of_ble_eq_true rfl)⟩ ⟨(Nat.le_of_ble_eq_true rfl), (Nat.le_of_ble_eq_true rfl)⟩
set_option maxRecDepth 100000 in
set_option maxHeartbeats 4000000 in
theorem c_X0_needRelation (l : Launch) (hs0 : l.stackTraces = false) {loc : Nat → Nat} {n : Nat} {g : Gc} (hn : n ≤ 40) {S0 : RS} (x : Int32) : TXv l yX0_needRelation cX0_needRelation 2 none (rmL 7 1 6) loc n g S0 [.int x] (fun S' => S' = S0 ∧ inI x (S0.1 0) = true) (fun E => E = iaeS ∧ inI x (S0.1 0) = false) := by
  refine o_enterx (by decide) (Nat.le_of_ble_eq_true rfl) ?_
  intro p e s m below meth c ls S hr hlocks hnt hC hl
  refine lv_iload_n S.1 S.2.1 dX0_needRelation_0 rfl (lv_at hl 1 rfl) ?_
  refine lv_if_lt (tgt := 12) S.1 S.2.1 dX0_needRelation_1 (by decide) (fun c1 => ?_) (fun c1 => ?_)
  · skip
    exact x_throw_iae (tx := "no such relation") hs0 S hC (by decide) hnt hlocks hl.1 ⟨rfl, by simp [inI, c1]⟩ dX0_needRelation_12 dX0_needRelation_15 dX0_needRelation_16 dX0_needRelation_18 dX0_needRelation_21 ⟨(Nat.le_of_ble_eq_true rfl), (Nat.le_of_ble_eq_true rfl), (Nat.le_of_ble_eq_true rfl), (Nat.le_of_ble_eq_true rfl)⟩ ⟨(Nat.le_of_ble_eq_true rfl), (Nat.le_of_ble_eq_true rfl)⟩
  · skip
    refine lv_iload_n S.1 S.2.1 dX0_needRelation_4 rfl (lv_at hl 1 rfl) ?_
    refine lv_aload_n S.1 S.2.1 dX0_needRelation_5 rfl (lv_at hl 0 rfl) ?_
    refine x_get_relations S hC dX0_needRelation_6 ?_
    refine lv_icmp_lt (tgt := 22) S.1 S.2.1 dX0_needRelation_9 (by decide) (fun c9 => ?_) (fun c9 => ?_)
    · skip
      exact vx_ret (o_vret S hr hlocks hC ⟨rfl, by simp [inI, c1, c9]⟩ dX0_needRelation_22 (Nat.le_of_ble_eq_true rfl) (Nat.le_of_ble_eq_true rfl))
    · skip
      exact x_throw_iae (tx := "no such relation") hs0 S hC (by decide) hnt hlocks hl.1 ⟨rfl, by simp [inI, c9]⟩ dX0_needRelation_12 dX0_needRelation_15 dX0_needRelation_16 dX0_needRelation_18 dX0_needRelation_21 ⟨(Nat.le_of_ble_eq_true rfl), (Nat.le_of_ble_eq_true rfl), (Nat.le_of_ble_eq_true rfl), (Nat.le_of_ble_eq_true rfl)⟩ ⟨(Nat.le_of_ble_eq_true rfl), (Nat.le_of_ble_eq_true rfl)⟩
def ofK (S : RS) (t : Nat) (k : Int32) : Bool := decide (k = -1) || decide (S.2.1 0 t = k)
set_option maxRecDepth 100000 in
set_option maxHeartbeats 4000000 in
theorem c_X0_isOfKind (l : Launch) {loc : Nat → Nat} {n : Nat} {g : Gc} (hn : n ≤ 40) {S0 : RS} {t : Nat} (ht : t < n) (k : Int32) : MXi l yX0_isOfKind cX0_isOfKind 3 (some .boolean) (rmL 1 0 0) loc n g S0 [.int (nI t), .int k] (fun r S' => S' = S0 ∧ r = bI (ofK S0 t k)) := by
  refine o_enter (by decide) (Nat.le_of_ble_eq_true rfl) ?_
  intro p e s m below meth c ls S hr hlocks hC hl
  refine lv_iload_n S.1 S.2.1 dX0_isOfKind_0 rfl (lv_at hl 2 rfl) ?_
  refine lv_iconst (v := -1) S.1 S.2.1 dX0_isOfKind_1 rfl ?_
  refine lv_icmp_eq (tgt := 15) S.1 S.2.1 dX0_isOfKind_2 (by decide) (fun c2 => ?_) (fun c2 => ?_)
  · skip
    refine lv_iconst (v := 1) S.1 S.2.1 dX0_isOfKind_15 rfl ?_
    refine lv_goto (tgt := 20) S.1 S.2.1 dX0_isOfKind_16 (by decide) ?_
    exact o_iret S hr hlocks hC ⟨rfl, by simp [ofK, c2, bI]⟩ rfl dX0_isOfKind_20 (Nat.le_of_ble_eq_true rfl) (Nat.le_of_ble_eq_true rfl)
  · skip
    refine lv_aload_n S.1 S.2.1 dX0_isOfKind_5 rfl (lv_at hl 0 rfl) ?_
    refine x_get_kinds S hC dX0_isOfKind_6 ?_
    refine lv_iload_n S.1 S.2.1 dX0_isOfKind_9 rfl (lv_at hl 1 rfl) ?_
    refine x_ild S hC hn 0 (by decide) ht dX0_isOfKind_10 ?_
    refine lv_iload_n S.1 S.2.1 dX0_isOfKind_11 rfl (lv_at hl 2 rfl) ?_
    refine lv_icmp_ne (tgt := 19) S.1 S.2.1 dX0_isOfKind_12 (by decide) (fun c12 => ?_) (fun c12 => ?_)
    · skip
      refine lv_iconst (v := 0) S.1 S.2.1 dX0_isOfKind_19 rfl ?_
      exact o_iret S hr hlocks hC ⟨rfl, by simp [ofK, c2, c12, bI]⟩ rfl dX0_isOfKind_20 (Nat.le_of_ble_eq_true rfl) (Nat.le_of_ble_eq_true rfl)
    · skip
      refine lv_iconst (v := 1) S.1 S.2.1 dX0_isOfKind_15 rfl ?_
      refine lv_goto (tgt := 20) S.1 S.2.1 dX0_isOfKind_16 (by decide) ?_
      exact o_iret S hr hlocks hC ⟨rfl, by simp [ofK, c12, bI]⟩ rfl dX0_isOfKind_20 (Nat.le_of_ble_eq_true rfl) (Nat.le_of_ble_eq_true rfl)
def hX (S : RS) (r a b : Nat) : Bool := tb (S.2.2 r a) b
set_option maxRecDepth 100000 in
set_option maxHeartbeats 4000000 in
theorem c_X0_holds (l : Launch) {loc : Nat → Nat} {n : Nat} {g : Gc} (hn : n ≤ 40) {S0 : RS} {r a b : Nat} (hr12 : r < 12) (ha : a < n) (hb : b < n) : MXi l yX0_holds cX0_holds 4 (some .boolean) (rmL 2 0 0) loc n g S0 [.int (nI r), .int (nI a), .int (nI b)] (fun v S' => S' = S0 ∧ v = bI (hX S0 r a b)) := by
  refine o_enter (by decide) (Nat.le_of_ble_eq_true rfl) ?_
  intro p e s m below meth c ls S hr hlocks hC hl
  refine lv_aload_n S.1 S.2.1 dX0_holds_0 rfl (lv_at hl 0 rfl) ?_
  refine x_get_rows S hC dX0_holds_1 ?_
  refine lv_iload_n S.1 S.2.1 dX0_holds_4 rfl (lv_at hl 1 rfl) ?_
  refine x_aald S hC hr12 dX0_holds_5 ?_
  refine lv_iload_n S.1 S.2.1 dX0_holds_6 rfl (lv_at hl 2 rfl) ?_
  refine x_lld S hC hn hr12 ha dX0_holds_7 ?_
  refine lv_iload_n S.1 S.2.1 dX0_holds_8 rfl (lv_at hl 3 rfl) ?_
  refine s_calll S (c_X0_bit l (nI b)) cw_RX0_X0_bit ⟨rfl, rfl, by decide, by decide⟩ rfl hl.1 rfl (Nat.le_of_ble_eq_true rfl) dX0_holds_9 ⟨(Nat.le_of_ble_eq_true rfl), (Nat.le_of_ble_eq_true rfl)⟩ (fun r9 hp => ?_)
  subst hp
  refine lv_land S.1 S.2.1 dX0_holds_12 ?_
  refine lv_lconst (v := 0) S.1 S.2.1 dX0_holds_13 rfl ?_
  refine W.lcmp S.1 S.2.1 dX0_holds_14 ?_
  refine lv_if_eq (tgt := 22) S.1 S.2.1 dX0_holds_15 (by decide) (fun c15 => ?_) (fun c15 => ?_)
  · skip
    refine lv_iconst (v := 0) S.1 S.2.1 dX0_holds_22 rfl ?_
    exact o_iret S hr hlocks hC ⟨rfl, by rw [hX, (tb_test (by omega)).mp ((lg_cmp_eq _ _).mp c15)]; rfl⟩ rfl dX0_holds_23 (Nat.le_of_ble_eq_true rfl) (Nat.le_of_ble_eq_true rfl)
  · skip
    refine lv_iconst (v := 1) S.1 S.2.1 dX0_holds_18 rfl ?_
    refine lv_goto (tgt := 23) S.1 S.2.1 dX0_holds_19 (by decide) ?_
    exact o_iret S hr hlocks hC ⟨rfl, by rw [hX, Bool.of_not_eq_false (fun q => c15 ((lg_cmp_eq _ _).mpr ((tb_test (by omega)).mpr q)))]; rfl⟩ rfl dX0_holds_23 (Nat.le_of_ble_eq_true rfl) (Nat.le_of_ble_eq_true rfl)
end
section
def kOk (k : Int32) : Bool := decide (k = -1) || (decide (¬ k < 0) && decide (k ≤ nI 3))
set_option maxRecDepth 100000 in
set_option maxHeartbeats 4000000 in
theorem c_X0_needKindOrNone (l : Launch) (hs0 : l.stackTraces = false) {loc : Nat → Nat} {n : Nat} {g : Gc} (hn : n ≤ 40) {S0 : RS} (k : Int32) : TXv l yX0_needKindOrNone cX0_needKindOrNone 2 none (rmL 7 1 6) loc n g S0 [.int k] (fun S' => S' = S0 ∧ kOk k = true) (fun E => E = iaeS ∧ kOk k = false) := by
  refine o_enterx (by decide) (Nat.le_of_ble_eq_true rfl) ?_
  intro p e s m below meth c ls S hr hlocks hnt hC hl
  refine lv_iload_n S.1 S.2.1 dX0_needKindOrNone_0 rfl (lv_at hl 1 rfl) ?_
  refine lv_iconst (v := -1) S.1 S.2.1 dX0_needKindOrNone_1 rfl ?_
  refine lv_icmp_eq (tgt := 24) S.1 S.2.1 dX0_needKindOrNone_2 (by decide) (fun c2 => ?_) (fun c2 => ?_)
  · skip
    exact vx_ret (o_vret S hr hlocks hC ⟨rfl, by simp [kOk, c2]⟩ dX0_needKindOrNone_24 (Nat.le_of_ble_eq_true rfl) (Nat.le_of_ble_eq_true rfl))
  · skip
    refine lv_iload_n S.1 S.2.1 dX0_needKindOrNone_5 rfl (lv_at hl 1 rfl) ?_
    refine lv_if_lt (tgt := 14) S.1 S.2.1 dX0_needKindOrNone_6 (by decide) (fun c6 => ?_) (fun c6 => ?_)
    · skip
      exact x_throw_iae (tx := "no such kind") hs0 S hC (by decide) hnt hlocks hl.1 ⟨rfl, by simp [kOk, c2, c6]⟩ dX0_needKindOrNone_14 dX0_needKindOrNone_17 dX0_needKindOrNone_18 dX0_needKindOrNone_20 dX0_needKindOrNone_23 ⟨(Nat.le_of_ble_eq_true rfl), (Nat.le_of_ble_eq_true rfl), (Nat.le_of_ble_eq_true rfl), (Nat.le_of_ble_eq_true rfl)⟩ ⟨(Nat.le_of_ble_eq_true rfl), (Nat.le_of_ble_eq_true rfl)⟩
    · skip
      refine lv_iload_n S.1 S.2.1 dX0_needKindOrNone_9 rfl (lv_at hl 1 rfl) ?_
      refine lv_iconst (v := nI 3) S.1 S.2.1 dX0_needKindOrNone_10 rfl ?_
      refine lv_icmp_le (tgt := 24) S.1 S.2.1 dX0_needKindOrNone_11 (by decide) (fun c11 => ?_) (fun c11 => ?_)
      · skip
        exact vx_ret (o_vret S hr hlocks hC ⟨rfl, by simp [kOk, c6, c11]⟩ dX0_needKindOrNone_24 (Nat.le_of_ble_eq_true rfl) (Nat.le_of_ble_eq_true rfl))
      · skip
        exact x_throw_iae (tx := "no such kind") hs0 S hC (by decide) hnt hlocks hl.1 ⟨rfl, by simp [kOk, c2, c6, c11]⟩ dX0_needKindOrNone_14 dX0_needKindOrNone_17 dX0_needKindOrNone_18 dX0_needKindOrNone_20 dX0_needKindOrNone_23 ⟨(Nat.le_of_ble_eq_true rfl), (Nat.le_of_ble_eq_true rfl), (Nat.le_of_ble_eq_true rfl), (Nat.le_of_ble_eq_true rfl)⟩ ⟨(Nat.le_of_ble_eq_true rfl), (Nat.le_of_ble_eq_true rfl)⟩
def xFull (S : RS) : Bool := decide (¬ S.1 0 < nI 12)
set_option maxRecDepth 100000 in
set_option maxHeartbeats 4000000 in
theorem c_X0_needRoomForRelation (l : Launch) (hs0 : l.stackTraces = false) {loc : Nat → Nat} {n : Nat} {g : Gc} (hn : n ≤ 40) {S0 : RS} : TXv l yX0_needRoomForRelation cX0_needRoomForRelation 1 none (rmL 7 1 6) loc n g S0 [] (fun S' => S' = S0 ∧ xFull S0 = false) (fun E => E = iseS ∧ xFull S0 = true) := by
  refine o_enterx (by decide) (Nat.le_of_ble_eq_true rfl) ?_
  intro p e s m below meth c ls S hr hlocks hnt hC hl
  refine lv_aload_n S.1 S.2.1 dX0_needRoomForRelation_0 rfl (lv_at hl 0 rfl) ?_
  refine x_get_relations S hC dX0_needRoomForRelation_1 ?_
  refine lv_bipush (v := nI 12) S.1 S.2.1 dX0_needRoomForRelation_4 rfl ?_
  refine lv_icmp_lt (tgt := 19) S.1 S.2.1 dX0_needRoomForRelation_6 (by decide) (fun c6 => ?_) (fun c6 => ?_)
  · skip
    exact vx_ret (o_vret S hr hlocks hC ⟨rfl, by simp [xFull, c6]⟩ dX0_needRoomForRelation_19 (Nat.le_of_ble_eq_true rfl) (Nat.le_of_ble_eq_true rfl))
  · skip
    exact x_throw_ise (tx := "there are as many relations as can be") hs0 S hC (by decide) hnt hlocks hl.1 ⟨rfl, by simp [xFull, c6]⟩ dX0_needRoomForRelation_9 dX0_needRoomForRelation_12 dX0_needRoomForRelation_13 dX0_needRoomForRelation_15 dX0_needRoomForRelation_18 ⟨(Nat.le_of_ble_eq_true rfl), (Nat.le_of_ble_eq_true rfl), (Nat.le_of_ble_eq_true rfl), (Nat.le_of_ble_eq_true rfl)⟩ ⟨(Nat.le_of_ble_eq_true rfl), (Nat.le_of_ble_eq_true rfl)⟩
def byC (S : RS) (r : Nat) : Bool := decide (¬ S.2.1 2 r < nI 10)
set_option maxRecDepth 100000 in
set_option maxHeartbeats 4000000 in
theorem c_X0_isByCondition (l : Launch) {loc : Nat → Nat} {n : Nat} {g : Gc} (hn : n ≤ 40) {S0 : RS} {r : Nat} (hr12 : r < 12) : MXi l yX0_isByCondition cX0_isByCondition 2 (some .boolean) (rmL 1 0 0) loc n g S0 [.int (nI r)] (fun v S' => S' = S0 ∧ v = bI (byC S0 r)) := by
  refine o_enter (by decide) (Nat.le_of_ble_eq_true rfl) ?_
  intro p e s m below meth c ls S hr hlocks hC hl
  refine lv_aload_n S.1 S.2.1 dX0_isByCondition_0 rfl (lv_at hl 0 rfl) ?_
  refine x_get_forms S hC dX0_isByCondition_1 ?_
  refine lv_iload_n S.1 S.2.1 dX0_isByCondition_4 rfl (lv_at hl 1 rfl) ?_
  refine x_ild S hC hn 2 (by decide) hr12 dX0_isByCondition_5 ?_
  refine lv_bipush (v := nI 10) S.1 S.2.1 dX0_isByCondition_6 rfl ?_
  refine lv_icmp_lt (tgt := 15) S.1 S.2.1 dX0_isByCondition_8 (by decide) (fun c8 => ?_) (fun c8 => ?_)
  · skip
    refine lv_iconst (v := 0) S.1 S.2.1 dX0_isByCondition_15 rfl ?_
    exact o_iret S hr hlocks hC ⟨rfl, by simp [byC, c8, bI]⟩ rfl dX0_isByCondition_16 (Nat.le_of_ble_eq_true rfl) (Nat.le_of_ble_eq_true rfl)
  · skip
    refine lv_iconst (v := 1) S.1 S.2.1 dX0_isByCondition_11 rfl ?_
    refine lv_goto (tgt := 16) S.1 S.2.1 dX0_isByCondition_12 (by decide) ?_
    exact o_iret S hr hlocks hC ⟨rfl, by simp [byC, c8, bI]⟩ rfl dX0_isByCondition_16 (Nat.le_of_ble_eq_true rfl) (Nat.le_of_ble_eq_true rfl)
set_option maxRecDepth 100000 in
set_option maxHeartbeats 4000000 in
theorem c_X0_needForm (l : Launch) (hs0 : l.stackTraces = false) {loc : Nat → Nat} {n : Nat} {g : Gc} (hn : n ≤ 40) {S0 : RS} {r : Nat} (hr12 : r < 12) : TXv l yX0_needForm cX0_needForm 2 none (rmL 7 1 6) loc n g S0 [.int (nI r)] (fun S' => S' = S0 ∧ byC S0 r = false) (fun E => E = iseS ∧ byC S0 r = true) := by
  refine o_enterx (by decide) (Nat.le_of_ble_eq_true rfl) ?_
  intro p e s m below meth c ls S hr hlocks hnt hC hl
  refine lv_aload_n S.1 S.2.1 dX0_needForm_0 rfl (lv_at hl 0 rfl) ?_
  refine lv_iload_n S.1 S.2.1 dX0_needForm_1 rfl (lv_at hl 1 rfl) ?_
  refine o_calli oiX S hC (c_X0_isByCondition l hn hr12) cw_RX0_X0_isByCondition ⟨rfl, rfl, by decide, by decide⟩ rfl hl.1 rfl (Nat.le_of_ble_eq_true rfl) dX0_needForm_2 ⟨(Nat.le_of_ble_eq_true rfl), (Nat.le_of_ble_eq_true rfl)⟩ (fun r2 S1 H locs hp hC1 => ?_)
  obtain ⟨e1, hp⟩ := hp
  rw [e1] at hC1; replace hC := hC1
  subst hp
  refine b_if_eq (tgt := 18) S.1 S.2.1 dX0_needForm_5 (by decide) (fun c5 => ?_) (fun c5 => ?_)
  · skip
    exact vx_ret (o_vret S hr hlocks hC ⟨rfl, c5⟩ dX0_needForm_18 (Nat.le_of_ble_eq_true rfl) (Nat.le_of_ble_eq_true rfl))
  · skip
    exact x_throw_ise (tx := "it is a relation by a condition") hs0 S hC (by decide) hnt hlocks hl.1 ⟨rfl, c5⟩ dX0_needForm_8 dX0_needForm_11 dX0_needForm_12 dX0_needForm_14 dX0_needForm_17 ⟨(Nat.le_of_ble_eq_true rfl), (Nat.le_of_ble_eq_true rfl), (Nat.le_of_ble_eq_true rfl), (Nat.le_of_ble_eq_true rfl)⟩ ⟨(Nat.le_of_ble_eq_true rfl), (Nat.le_of_ble_eq_true rfl)⟩
def two2 (c : Int32) : Bool := decide (c = nI 2) || (decide (c = nI 3) || decide (c = nI 4))
set_option maxRecDepth 100000 in
set_option maxHeartbeats 4000000 in
theorem c_X0_takesTwo (l : Launch) (c0 : Int32) : MSi l yX0_takesTwo cX0_takesTwo 1 (some .boolean) (rmL 1 0 0) [.int c0] (fun v => v = bI (two2 c0)) := by
  refine s_enter (by decide) (Nat.le_of_ble_eq_true rfl) ?_
  intro p e s m below meth c ls S hr hlocks hl
  refine lv_iload_n S.1 S.2.1 dX0_takesTwo_0 rfl (lv_at hl 0 rfl) ?_
  refine lv_iconst (v := nI 2) S.1 S.2.1 dX0_takesTwo_1 rfl ?_
  refine lv_icmp_eq (tgt := 15) S.1 S.2.1 dX0_takesTwo_2 (by decide) (fun c2 => ?_) (fun c2 => ?_)
  · skip
    refine lv_iconst (v := 1) S.1 S.2.1 dX0_takesTwo_15 rfl ?_
    refine lv_goto (tgt := 20) S.1 S.2.1 dX0_takesTwo_16 (by decide) ?_
    exact s_iret S hr hlocks (by simp [two2, c2, bI]) rfl dX0_takesTwo_20
  · skip
    refine lv_iload_n S.1 S.2.1 dX0_takesTwo_5 rfl (lv_at hl 0 rfl) ?_
    refine lv_iconst (v := nI 3) S.1 S.2.1 dX0_takesTwo_6 rfl ?_
    refine lv_icmp_eq (tgt := 15) S.1 S.2.1 dX0_takesTwo_7 (by decide) (fun c7 => ?_) (fun c7 => ?_)
    · skip
      refine lv_iconst (v := 1) S.1 S.2.1 dX0_takesTwo_15 rfl ?_
      refine lv_goto (tgt := 20) S.1 S.2.1 dX0_takesTwo_16 (by decide) ?_
      exact s_iret S hr hlocks (by simp [two2, c7, bI]) rfl dX0_takesTwo_20
    · skip
      refine lv_iload_n S.1 S.2.1 dX0_takesTwo_10 rfl (lv_at hl 0 rfl) ?_
      refine lv_iconst (v := nI 4) S.1 S.2.1 dX0_takesTwo_11 rfl ?_
      refine lv_icmp_ne (tgt := 19) S.1 S.2.1 dX0_takesTwo_12 (by decide) (fun c12 => ?_) (fun c12 => ?_)
      · skip
        refine lv_iconst (v := 0) S.1 S.2.1 dX0_takesTwo_19 rfl ?_
        exact s_iret S hr hlocks (by simp [two2, c2, c7, c12, bI]) rfl dX0_takesTwo_20
      · skip
        refine lv_iconst (v := 1) S.1 S.2.1 dX0_takesTwo_15 rfl ?_
        refine lv_goto (tgt := 20) S.1 S.2.1 dX0_takesTwo_16 (by decide) ?_
        exact s_iret S hr hlocks (by simp [two2, c12, bI]) rfl dX0_takesTwo_20
def bothW (S : RS) (r : Nat) : Bool := decide (S.2.1 2 r = nI 4) || decide (S.2.1 2 r = nI 5)
set_option maxRecDepth 100000 in
set_option maxHeartbeats 4000000 in
theorem c_X0_goesBothWays (l : Launch) {loc : Nat → Nat} {n : Nat} {g : Gc} (hn : n ≤ 40) {S0 : RS} {r : Nat} (hr12 : r < 12) : MXi l yX0_goesBothWays cX0_goesBothWays 2 (some .boolean) (rmL 1 0 0) loc n g S0 [.int (nI r)] (fun v S' => S' = S0 ∧ v = bI (bothW S0 r)) := by
  refine o_enter (by decide) (Nat.le_of_ble_eq_true rfl) ?_
  intro p e s m below meth c ls S hr hlocks hC hl
  refine lv_aload_n S.1 S.2.1 dX0_goesBothWays_0 rfl (lv_at hl 0 rfl) ?_
  refine x_get_forms S hC dX0_goesBothWays_1 ?_
  refine lv_iload_n S.1 S.2.1 dX0_goesBothWays_4 rfl (lv_at hl 1 rfl) ?_
  refine x_ild S hC hn 2 (by decide) hr12 dX0_goesBothWays_5 ?_
  refine lv_iconst (v := nI 4) S.1 S.2.1 dX0_goesBothWays_6 rfl ?_
  refine lv_icmp_eq (tgt := 20) S.1 S.2.1 dX0_goesBothWays_7 (by decide) (fun c7 => ?_) (fun c7 => ?_)
  · skip
    refine lv_iconst (v := 1) S.1 S.2.1 dX0_goesBothWays_20 rfl ?_
    refine lv_goto (tgt := 25) S.1 S.2.1 dX0_goesBothWays_21 (by decide) ?_
    exact o_iret S hr hlocks hC ⟨rfl, by simp [bothW, c7, bI]⟩ rfl dX0_goesBothWays_25 (Nat.le_of_ble_eq_true rfl) (Nat.le_of_ble_eq_true rfl)
  · skip
    refine lv_aload_n S.1 S.2.1 dX0_goesBothWays_10 rfl (lv_at hl 0 rfl) ?_
    refine x_get_forms S hC dX0_goesBothWays_11 ?_
    refine lv_iload_n S.1 S.2.1 dX0_goesBothWays_14 rfl (lv_at hl 1 rfl) ?_
    refine x_ild S hC hn 2 (by decide) hr12 dX0_goesBothWays_15 ?_
    refine lv_iconst (v := nI 5) S.1 S.2.1 dX0_goesBothWays_16 rfl ?_
    refine lv_icmp_ne (tgt := 24) S.1 S.2.1 dX0_goesBothWays_17 (by decide) (fun c17 => ?_) (fun c17 => ?_)
    · skip
      refine lv_iconst (v := 0) S.1 S.2.1 dX0_goesBothWays_24 rfl ?_
      exact o_iret S hr hlocks hC ⟨rfl, by simp [bothW, c7, c17, bI]⟩ rfl dX0_goesBothWays_25 (Nat.le_of_ble_eq_true rfl) (Nat.le_of_ble_eq_true rfl)
    · skip
      refine lv_iconst (v := 1) S.1 S.2.1 dX0_goesBothWays_20 rfl ?_
      refine lv_goto (tgt := 25) S.1 S.2.1 dX0_goesBothWays_21 (by decide) ?_
      exact o_iret S hr hlocks hC ⟨rfl, by simp [bothW, c17, bI]⟩ rfl dX0_goesBothWays_25 (Nat.le_of_ble_eq_true rfl) (Nat.le_of_ble_eq_true rfl)
def addRel (S : RS) (R : Nat) (f x y : Int32) : RS := sI (sA (sA (sA S 2 R f) 3 R x) 4 R y) 0 (nI (R + 1))
set_option maxRecDepth 100000 in
set_option maxHeartbeats 4000000 in
theorem c_X0_addRelation (l : Launch) {loc : Nat → Nat} {n : Nat} {g : Gc} (hn : n ≤ 40) {S0 : RS} {R : Nat} (hR : R < 12) (hrel : S0.1 0 = nI R) (f x y : Int32) : MXi l yX0_addRelation cX0_addRelation 5 (some .int) (rmL 1 0 0) loc n g S0 [.int f, .int x, .int y] (fun v S' => S' = addRel S0 R f x y ∧ v = nI R) := by
  refine o_enter (by decide) (Nat.le_of_ble_eq_true rfl) ?_
  intro p e s m below meth c ls S hr hlocks hC hl
  refine lv_aload_n S.1 S.2.1 dX0_addRelation_0 rfl (lv_at hl 0 rfl) ?_
  refine x_get_relations S hC dX0_addRelation_1 ?_
  rw [hrel]
  refine lv_istore S.1 S.2.1 dX0_addRelation_4 hl (by decide) rfl (fun ls hl => ?_)
  refine lv_aload_n S.1 S.2.1 dX0_addRelation_6 rfl (lv_at hl 1 rfl) ?_
  refine x_get_forms S hC dX0_addRelation_7 ?_
  refine lv_iload S.1 S.2.1 dX0_addRelation_10 (lv_at hl 0 rfl) ?_
  refine lv_iload_n S.1 S.2.1 dX0_addRelation_12 rfl (lv_at hl 2 rfl) ?_
  refine x_ist S hC hn 2 (by decide) hR dX0_addRelation_13 (fun H locs hC => ?_)
  refine lv_aload_n S.1 S.2.1 dX0_addRelation_14 rfl (lv_at hl 1 rfl) ?_
  refine x_get_firsts S hC dX0_addRelation_15 ?_
  refine lv_iload S.1 S.2.1 dX0_addRelation_18 (lv_at hl 0 rfl) ?_
  refine lv_iload_n S.1 S.2.1 dX0_addRelation_20 rfl (lv_at hl 3 rfl) ?_
  refine x_ist S hC hn 3 (by decide) hR dX0_addRelation_21 (fun H locs hC => ?_)
  refine lv_aload_n S.1 S.2.1 dX0_addRelation_22 rfl (lv_at hl 1 rfl) ?_
  refine x_get_seconds S hC dX0_addRelation_23 ?_
  refine lv_iload S.1 S.2.1 dX0_addRelation_26 (lv_at hl 0 rfl) ?_
  refine lv_iload_n S.1 S.2.1 dX0_addRelation_28 rfl (lv_at hl 4 rfl) ?_
  refine x_ist S hC hn 4 (by decide) hR dX0_addRelation_29 (fun H locs hC => ?_)
  refine lv_aload_n S.1 S.2.1 dX0_addRelation_30 rfl (lv_at hl 1 rfl) ?_
  refine lv_dup S.1 S.2.1 dX0_addRelation_31 rfl ?_
  refine x_get_relations S hC dX0_addRelation_32 ?_
  refine lv_iconst (v := nI 1) S.1 S.2.1 dX0_addRelation_35 rfl ?_
  rw [show (sA (sA (sA S0 2 R f) 3 R x) 4 R y).1 0 = nI R from hrel]
  refine t_iadd S.1 S.2.1 dX0_addRelation_36 (nI_add _ _) ?_
  refine x_put_relations S hC dX0_addRelation_37 (fun H locs hC => ?_)
  refine lv_iload S.1 S.2.1 dX0_addRelation_40 (lv_at hl 0 rfl) ?_
  exact o_iret S hr hlocks hC ⟨rfl, rfl⟩ rfl dX0_addRelation_42 (Nat.le_of_ble_eq_true rfl) (Nat.le_of_ble_eq_true rfl)
def startF (S : RS) (r : Nat) : Nat → RS
  | 0 => S
  | k + 1 => sW (startF S r k) r k (if decide (S.2.1 2 r = nI 6) && ofK (startF S r k) k ((startF S r k).2.1 3 r) then bitN k else 0)
set_option maxRecDepth 100000 in
set_option maxHeartbeats 4000000 in
theorem c_X0_startRows (l : Launch) {loc : Nat → Nat} {n : Nat} {g : Gc} (hn : n ≤ 40) {S0 : RS} {r : Nat} (hr12 : r < 12) : MXv l yX0_startRows cX0_startRows 4 none (rmL 2 0 0) loc n g S0 [.int (nI r)] (fun S' => S' = startF S0 r n) := by
  refine o_enter (by decide) (Nat.le_of_ble_eq_true rfl) ?_
  intro p e s m below meth c ls S hr hlocks hC hl
  refine lv_aload_n S.1 S.2.1 dX0_startRows_0 rfl (lv_at hl 0 rfl) ?_
  refine x_get_forms S hC dX0_startRows_1 ?_
  refine lv_iload_n S.1 S.2.1 dX0_startRows_4 rfl (lv_at hl 1 rfl) ?_
  refine x_ild S hC hn 2 (by decide) hr12 dX0_startRows_5 ?_
  refine lv_bipush (v := nI 6) S.1 S.2.1 dX0_startRows_6 rfl ?_
  refine lv_icmp_ne (tgt := 15) S.1 S.2.1 dX0_startRows_8 (by decide) (fun c8 => ?_) (fun c8 => ?_)
  · skip
    have e6 : Int32.ofInt 0 = bI (decide (S0.2.1 2 r = nI 6)) := by rw [decide_eq_false c8]; rfl
    refine lv_iconst (v := bI (decide (S0.2.1 2 r = nI 6))) S.1 S.2.1 dX0_startRows_15 e6 ?_
    refine lv_istore_n S.1 S.2.1 dX0_startRows_16 rfl hl (by decide) rfl (fun ls hl => ?_)
    refine lv_iconst (v := nI 0) S.1 S.2.1 dX0_startRows_17 rfl ?_
    refine lv_istore_n S.1 S.2.1 dX0_startRows_18 rfl hl (by decide) rfl (fun ls hl => ?_)
    have loop : ∀ (k i : Nat), n - i < k → i ≤ n → ∀ (H : Heap) (locs : List Loc) (ls : Array Slot), CX loc n g (startF S0 r i) s H locs → lv_has ls 4 [(0, .ref (loc 0)), (1, .int (nI r)), (2, .int (bI (decide (S0.2.1 2 r = nI 6)))), (3, .int (nI i))] → W p l e (rmL 2 0 0) s m ([.ref (loc 0), .int (nI r)] : List Value).toArray below meth c H locs 0 0 (MQ below (va_Qv (fun S' => S' = startF S0 r n) (fun S' t => HX loc n g S' t.heap) (ZA loc 21)) ([.ref (loc 0), .int (nI r)] : List Value).toArray s (rmL 2 0 0).cells (rmL 2 0 0).slots (ZA loc 21)) (F0 m 19 ls []) := by
      intro k
      induction k with
      | zero => intro i hk; omega
      | succ k ih =>
        intro i hk hi  H locs ls hC hl
        refine lv_iload_n S.1 S.2.1 dX0_startRows_19 rfl (lv_at hl 3 rfl) ?_
        refine lv_aload_n S.1 S.2.1 dX0_startRows_20 rfl (lv_at hl 0 rfl) ?_
        refine x_get_things S hC dX0_startRows_21 ?_
        refine n_icmp_ge (tgt := 67) S.1 S.2.1 dX0_startRows_24 (by decide) (by omega) (by omega) (fun c24 => ?_) (fun c24 => ?_)
        · skip
          exact o_vret S hr hlocks hC (by rw [show n = i by omega]) dX0_startRows_67 (Nat.le_of_ble_eq_true rfl) (Nat.le_of_ble_eq_true rfl)
        · skip
          refine lv_aload_n S.1 S.2.1 dX0_startRows_27 rfl (lv_at hl 0 rfl) ?_
          refine x_get_rows S hC dX0_startRows_28 ?_
          refine lv_iload_n S.1 S.2.1 dX0_startRows_31 rfl (lv_at hl 1 rfl) ?_
          refine x_aald S hC hr12 dX0_startRows_32 ?_
          refine lv_iload_n S.1 S.2.1 dX0_startRows_33 rfl (lv_at hl 3 rfl) ?_
          refine lv_iload_n S.1 S.2.1 dX0_startRows_34 rfl (lv_at hl 2 rfl) ?_
          refine b_if_eq (tgt := 59) S.1 S.2.1 dX0_startRows_35 (by decide) (fun c35 => ?_) (fun c35 => ?_)
          · skip
            refine lv_lconst (v := 0) S.1 S.2.1 dX0_startRows_59 rfl ?_
            refine x_lst S hC hn hr12 (by omega) dX0_startRows_60 (fun H locs hC => ?_)
            refine lv_iinc (k := 3) S.1 S.2.1 dX0_startRows_61 hl rfl (n_inc _) (by decide) rfl (fun ls hl => ?_)
            refine lv_goto (tgt := 19) S.1 S.2.1 dX0_startRows_64 (by decide) ?_
            exact ih (i + 1) (by omega) (by omega) _ _ _ (by rw [startF, if_neg (by simp [c35])]; exact hC) (lv_sub hl [1, 2, 3, 0] rfl)
          · skip
            refine lv_aload_n S.1 S.2.1 dX0_startRows_38 rfl (lv_at hl 0 rfl) ?_
            refine lv_iload_n S.1 S.2.1 dX0_startRows_39 rfl (lv_at hl 3 rfl) ?_
            refine lv_aload_n S.1 S.2.1 dX0_startRows_40 rfl (lv_at hl 0 rfl) ?_
            refine x_get_firsts S hC dX0_startRows_41 ?_
            refine lv_iload_n S.1 S.2.1 dX0_startRows_44 rfl (lv_at hl 1 rfl) ?_
            refine x_ild S hC hn 3 (by decide) hr12 dX0_startRows_45 ?_
            refine o_calli oiX S hC (c_X0_isOfKind l hn (t := i) (by omega) _) cw_RX0_X0_isOfKind ⟨rfl, rfl, by decide, by decide⟩ rfl hl.1 rfl (Nat.le_of_ble_eq_true rfl) dX0_startRows_46 ⟨(Nat.le_of_ble_eq_true rfl), (Nat.le_of_ble_eq_true rfl)⟩ (fun r46 S1 H locs hp hC1 => ?_)
            obtain ⟨e1, hp⟩ := hp
            rw [e1] at hC1; replace hC := hC1
            subst hp
            refine b_if_eq (tgt := 59) S.1 S.2.1 dX0_startRows_49 (by decide) (fun c49 => ?_) (fun c49 => ?_)
            · skip
              refine lv_lconst (v := 0) S.1 S.2.1 dX0_startRows_59 rfl ?_
              refine x_lst S hC hn hr12 (by omega) dX0_startRows_60 (fun H locs hC => ?_)
              refine lv_iinc (k := 3) S.1 S.2.1 dX0_startRows_61 hl rfl (n_inc _) (by decide) rfl (fun ls hl => ?_)
              refine lv_goto (tgt := 19) S.1 S.2.1 dX0_startRows_64 (by decide) ?_
              exact ih (i + 1) (by omega) (by omega) _ _ _ (by rw [startF, if_neg (by simp [c49])]; exact hC) (lv_sub hl [1, 2, 3, 0] rfl)
            · skip
              refine lv_iload_n S.1 S.2.1 dX0_startRows_52 rfl (lv_at hl 3 rfl) ?_
              refine s_calll S (c_X0_bit l (nI i)) cw_RX0_X0_bit ⟨rfl, rfl, by decide, by decide⟩ rfl hl.1 rfl (Nat.le_of_ble_eq_true rfl) dX0_startRows_53 ⟨(Nat.le_of_ble_eq_true rfl), (Nat.le_of_ble_eq_true rfl)⟩ (fun r53 hp => ?_)
              subst hp
              refine lv_goto (tgt := 60) S.1 S.2.1 dX0_startRows_56 (by decide) ?_
              refine x_lst S hC hn hr12 (by omega) dX0_startRows_60 (fun H locs hC => ?_)
              refine lv_iinc (k := 3) S.1 S.2.1 dX0_startRows_61 hl rfl (n_inc _) (by decide) rfl (fun ls hl => ?_)
              refine lv_goto (tgt := 19) S.1 S.2.1 dX0_startRows_64 (by decide) ?_
              exact ih (i + 1) (by omega) (by omega) _ _ _ (by rw [startF, if_pos (by simp [c35, c49])]; exact hC) (lv_sub hl [1, 2, 3, 0] rfl)
    exact loop (n + 1) 0 (by omega) (by omega) _ _ _ hC (lv_sub hl [2, 3, 1, 0] rfl)
  · skip
    have e6 : Int32.ofInt 1 = bI (decide (S0.2.1 2 r = nI 6)) := by rw [decide_eq_true c8]; rfl
    refine lv_iconst (v := bI (decide (S0.2.1 2 r = nI 6))) S.1 S.2.1 dX0_startRows_11 e6 ?_
    refine lv_goto (tgt := 16) S.1 S.2.1 dX0_startRows_12 (by decide) ?_
    refine lv_istore_n S.1 S.2.1 dX0_startRows_16 rfl hl (by decide) rfl (fun ls hl => ?_)
    refine lv_iconst (v := nI 0) S.1 S.2.1 dX0_startRows_17 rfl ?_
    refine lv_istore_n S.1 S.2.1 dX0_startRows_18 rfl hl (by decide) rfl (fun ls hl => ?_)
    have loop : ∀ (k i : Nat), n - i < k → i ≤ n → ∀ (H : Heap) (locs : List Loc) (ls : Array Slot), CX loc n g (startF S0 r i) s H locs → lv_has ls 4 [(0, .ref (loc 0)), (1, .int (nI r)), (2, .int (bI (decide (S0.2.1 2 r = nI 6)))), (3, .int (nI i))] → W p l e (rmL 2 0 0) s m ([.ref (loc 0), .int (nI r)] : List Value).toArray below meth c H locs 0 0 (MQ below (va_Qv (fun S' => S' = startF S0 r n) (fun S' t => HX loc n g S' t.heap) (ZA loc 21)) ([.ref (loc 0), .int (nI r)] : List Value).toArray s (rmL 2 0 0).cells (rmL 2 0 0).slots (ZA loc 21)) (F0 m 19 ls []) := by
      intro k
      induction k with
      | zero => intro i hk; omega
      | succ k ih =>
        intro i hk hi  H locs ls hC hl
        refine lv_iload_n S.1 S.2.1 dX0_startRows_19 rfl (lv_at hl 3 rfl) ?_
        refine lv_aload_n S.1 S.2.1 dX0_startRows_20 rfl (lv_at hl 0 rfl) ?_
        refine x_get_things S hC dX0_startRows_21 ?_
        refine n_icmp_ge (tgt := 67) S.1 S.2.1 dX0_startRows_24 (by decide) (by omega) (by omega) (fun c24 => ?_) (fun c24 => ?_)
        · skip
          exact o_vret S hr hlocks hC (by rw [show n = i by omega]) dX0_startRows_67 (Nat.le_of_ble_eq_true rfl) (Nat.le_of_ble_eq_true rfl)
        · skip
          refine lv_aload_n S.1 S.2.1 dX0_startRows_27 rfl (lv_at hl 0 rfl) ?_
          refine x_get_rows S hC dX0_startRows_28 ?_
          refine lv_iload_n S.1 S.2.1 dX0_startRows_31 rfl (lv_at hl 1 rfl) ?_
          refine x_aald S hC hr12 dX0_startRows_32 ?_
          refine lv_iload_n S.1 S.2.1 dX0_startRows_33 rfl (lv_at hl 3 rfl) ?_
          refine lv_iload_n S.1 S.2.1 dX0_startRows_34 rfl (lv_at hl 2 rfl) ?_
          refine b_if_eq (tgt := 59) S.1 S.2.1 dX0_startRows_35 (by decide) (fun c35 => ?_) (fun c35 => ?_)
          · skip
            refine lv_lconst (v := 0) S.1 S.2.1 dX0_startRows_59 rfl ?_
            refine x_lst S hC hn hr12 (by omega) dX0_startRows_60 (fun H locs hC => ?_)
            refine lv_iinc (k := 3) S.1 S.2.1 dX0_startRows_61 hl rfl (n_inc _) (by decide) rfl (fun ls hl => ?_)
            refine lv_goto (tgt := 19) S.1 S.2.1 dX0_startRows_64 (by decide) ?_
            exact ih (i + 1) (by omega) (by omega) _ _ _ (by rw [startF, if_neg (by simp [c35])]; exact hC) (lv_sub hl [1, 2, 3, 0] rfl)
          · skip
            refine lv_aload_n S.1 S.2.1 dX0_startRows_38 rfl (lv_at hl 0 rfl) ?_
            refine lv_iload_n S.1 S.2.1 dX0_startRows_39 rfl (lv_at hl 3 rfl) ?_
            refine lv_aload_n S.1 S.2.1 dX0_startRows_40 rfl (lv_at hl 0 rfl) ?_
            refine x_get_firsts S hC dX0_startRows_41 ?_
            refine lv_iload_n S.1 S.2.1 dX0_startRows_44 rfl (lv_at hl 1 rfl) ?_
            refine x_ild S hC hn 3 (by decide) hr12 dX0_startRows_45 ?_
            refine o_calli oiX S hC (c_X0_isOfKind l hn (t := i) (by omega) _) cw_RX0_X0_isOfKind ⟨rfl, rfl, by decide, by decide⟩ rfl hl.1 rfl (Nat.le_of_ble_eq_true rfl) dX0_startRows_46 ⟨(Nat.le_of_ble_eq_true rfl), (Nat.le_of_ble_eq_true rfl)⟩ (fun r46 S1 H locs hp hC1 => ?_)
            obtain ⟨e1, hp⟩ := hp
            rw [e1] at hC1; replace hC := hC1
            subst hp
            refine b_if_eq (tgt := 59) S.1 S.2.1 dX0_startRows_49 (by decide) (fun c49 => ?_) (fun c49 => ?_)
            · skip
              refine lv_lconst (v := 0) S.1 S.2.1 dX0_startRows_59 rfl ?_
              refine x_lst S hC hn hr12 (by omega) dX0_startRows_60 (fun H locs hC => ?_)
              refine lv_iinc (k := 3) S.1 S.2.1 dX0_startRows_61 hl rfl (n_inc _) (by decide) rfl (fun ls hl => ?_)
              refine lv_goto (tgt := 19) S.1 S.2.1 dX0_startRows_64 (by decide) ?_
              exact ih (i + 1) (by omega) (by omega) _ _ _ (by rw [startF, if_neg (by simp [c49])]; exact hC) (lv_sub hl [1, 2, 3, 0] rfl)
            · skip
              refine lv_iload_n S.1 S.2.1 dX0_startRows_52 rfl (lv_at hl 3 rfl) ?_
              refine s_calll S (c_X0_bit l (nI i)) cw_RX0_X0_bit ⟨rfl, rfl, by decide, by decide⟩ rfl hl.1 rfl (Nat.le_of_ble_eq_true rfl) dX0_startRows_53 ⟨(Nat.le_of_ble_eq_true rfl), (Nat.le_of_ble_eq_true rfl)⟩ (fun r53 hp => ?_)
              subst hp
              refine lv_goto (tgt := 60) S.1 S.2.1 dX0_startRows_56 (by decide) ?_
              refine x_lst S hC hn hr12 (by omega) dX0_startRows_60 (fun H locs hC => ?_)
              refine lv_iinc (k := 3) S.1 S.2.1 dX0_startRows_61 hl rfl (n_inc _) (by decide) rfl (fun ls hl => ?_)
              refine lv_goto (tgt := 19) S.1 S.2.1 dX0_startRows_64 (by decide) ?_
              exact ih (i + 1) (by omega) (by omega) _ _ _ (by rw [startF, if_pos (by simp [c35, c49])]; exact hC) (lv_sub hl [1, 2, 3, 0] rfl)
    exact loop (n + 1) 0 (by omega) (by omega) _ _ _ hC (lv_sub hl [2, 3, 1, 0] rfl)
end
section
def ixN (x : Int32) : Nat := x.toNatClampNeg
theorem ixN_nI {j : Nat} (h : j < 2 ^ 31) : ixN (nI j) = j := nI_clamp h
theorem tsw_out {x : Int32} (k : Nat) (h : ∀ j, j < k + 1 → ¬ x = nI j) (hk : k < 2 ^ 30 := by decide) : x.toInt < 0 ∨ ((k : Nat) : Int) < x.toInt := by
  rcases pk_ix x (n := k + 1) (by omega) with q | q | ⟨j, hj, e⟩
  · exact Or.inl (by simpa using Int32.lt_iff_toInt_lt.mp q)
  · have := Int32.le_iff_toInt_le.mp q
    rw [nI_toInt (by omega)] at this
    exact Or.inr (by omega)
  · exact absurd e (h j hj)
/-- why a pair can't be set, or go -/
def settW (S : RS) (n : Nat) (x a b : Int32) : Option String :=
  if inI x (S.1 0) = false then some iaeS else if inI a (nI n) = false then some iaeS else if inI b (nI n) = false then some iaeS
  else if byC S (ixN x) = true then some iseS
  else if ofK S (ixN a) (S.2.1 3 (ixN x)) = false then some iaeS else if ofK S (ixN b) (S.2.1 4 (ixN x)) = false then some iaeS
  else if S.2.1 2 (ixN x) = nI 4 ∧ a = b then some iaeS else none
set_option maxRecDepth 100000 in
set_option maxHeartbeats 4000000 in
theorem c_X0_needSettable (l : Launch) (hs0 : l.stackTraces = false) {loc : Nat → Nat} {n : Nat} {g : Gc} (hn : n ≤ 40) {S0 : RS} {R : Nat} (hR : R ≤ 12) (hrel : S0.1 0 = nI R) (x a b : Int32) : TXv l yX0_needSettable cX0_needSettable 4 none (rmL 8 5 30) loc n g S0 [.int x, .int a, .int b] (fun S' => S' = S0 ∧ settW S0 n x a b = none) (fun E => settW S0 n x a b = some E) := by
  refine o_enterx (by decide) (Nat.le_of_ble_eq_true rfl) ?_
  intro p e s m below meth c ls S hr hlocks hnt hC hl
  refine lv_aload_n S.1 S.2.1 dX0_needSettable_0 rfl (lv_at hl 0 rfl) ?_
  refine lv_iload_n S.1 S.2.1 dX0_needSettable_1 rfl (lv_at hl 1 rfl) ?_
  refine o_xcallv oiX S hC (c_X0_needRelation l hs0 hn x) cw_RX0_X0_needRelation ⟨rfl, rfl, by decide, by decide⟩ rfl hl.1 rfl (Nat.le_of_ble_eq_true rfl) dX0_needSettable_2 ⟨(Nat.le_of_ble_eq_true rfl), (Nat.le_of_ble_eq_true rfl)⟩ hnt hlocks ⟨(Nat.le_of_ble_eq_true rfl), (Nat.le_of_ble_eq_true rfl)⟩ (fun E h => by simp [settW, h.1, h.2]) (fun S1 H locs hp hC1 => ?_)
  obtain ⟨e1, hp⟩ := hp
  rw [e1] at hC1; replace hC := hC1
  have h1 := hp
  rw [hrel] at h1
  obtain ⟨r, hrR, rfl⟩ := inI_t (by omega) h1
  clear h1
  have h1 := hp
  refine lv_aload_n S.1 S.2.1 dX0_needSettable_5 rfl (lv_at hl 0 rfl) ?_
  refine lv_iload_n S.1 S.2.1 dX0_needSettable_6 rfl (lv_at hl 2 rfl) ?_
  refine o_xcallv oiX S hC (c_X0_needThing l hs0 hn a) cw_RX0_X0_needThing ⟨rfl, rfl, by decide, by decide⟩ rfl hl.1 rfl (Nat.le_of_ble_eq_true rfl) dX0_needSettable_7 ⟨(Nat.le_of_ble_eq_true rfl), (Nat.le_of_ble_eq_true rfl)⟩ hnt hlocks ⟨(Nat.le_of_ble_eq_true rfl), (Nat.le_of_ble_eq_true rfl)⟩ (fun E h => by simp [settW, h.1, h.2, h1]) (fun S1 H locs hp hC1 => ?_)
  obtain ⟨e1, hp⟩ := hp
  rw [e1] at hC1; replace hC := hC1
  have h2 := hp
  obtain ⟨a, ha, rfl⟩ := inI_t (by omega) h2
  refine lv_aload_n S.1 S.2.1 dX0_needSettable_10 rfl (lv_at hl 0 rfl) ?_
  refine lv_iload_n S.1 S.2.1 dX0_needSettable_11 rfl (lv_at hl 3 rfl) ?_
  refine o_xcallv oiX S hC (c_X0_needThing l hs0 hn b) cw_RX0_X0_needThing ⟨rfl, rfl, by decide, by decide⟩ rfl hl.1 rfl (Nat.le_of_ble_eq_true rfl) dX0_needSettable_12 ⟨(Nat.le_of_ble_eq_true rfl), (Nat.le_of_ble_eq_true rfl)⟩ hnt hlocks ⟨(Nat.le_of_ble_eq_true rfl), (Nat.le_of_ble_eq_true rfl)⟩ (fun E h => by simp [settW, h.1, h.2, h1, h2]) (fun S1 H locs hp hC1 => ?_)
  obtain ⟨e1, hp⟩ := hp
  rw [e1] at hC1; replace hC := hC1
  have h3 := hp
  obtain ⟨b, hb, rfl⟩ := inI_t (by omega) h3
  have er : ixN (nI r) = r := ixN_nI (by omega)
  have ea : ixN (nI a) = a := ixN_nI (by omega)
  have eb : ixN (nI b) = b := ixN_nI (by omega)
  have hr12 : r < 12 := by omega
  refine lv_aload_n S.1 S.2.1 dX0_needSettable_15 rfl (lv_at hl 0 rfl) ?_
  refine lv_iload_n S.1 S.2.1 dX0_needSettable_16 rfl (lv_at hl 1 rfl) ?_
  refine o_xcallv oiX S hC (c_X0_needForm l hs0 hn hr12) cw_RX0_X0_needForm ⟨rfl, rfl, by decide, by decide⟩ rfl hl.1 rfl (Nat.le_of_ble_eq_true rfl) dX0_needSettable_17 ⟨(Nat.le_of_ble_eq_true rfl), (Nat.le_of_ble_eq_true rfl)⟩ hnt hlocks ⟨(Nat.le_of_ble_eq_true rfl), (Nat.le_of_ble_eq_true rfl)⟩ (fun E h => by simp [settW, h.1, h.2, h1, h2, h3, er]) (fun S1 H locs hp hC1 => ?_)
  obtain ⟨e1, hp⟩ := hp
  rw [e1] at hC1; replace hC := hC1
  have h4 := hp
  refine lv_aload_n S.1 S.2.1 dX0_needSettable_20 rfl (lv_at hl 0 rfl) ?_
  refine lv_iload_n S.1 S.2.1 dX0_needSettable_21 rfl (lv_at hl 2 rfl) ?_
  refine lv_aload_n S.1 S.2.1 dX0_needSettable_22 rfl (lv_at hl 0 rfl) ?_
  refine x_get_firsts S hC dX0_needSettable_23 ?_
  refine lv_iload_n S.1 S.2.1 dX0_needSettable_26 rfl (lv_at hl 1 rfl) ?_
  refine x_ild S hC hn 3 (by decide) hr12 dX0_needSettable_27 ?_
  refine o_calli oiX S hC (c_X0_isOfKind l hn ha _) cw_RX0_X0_isOfKind ⟨rfl, rfl, by decide, by decide⟩ rfl hl.1 rfl (Nat.le_of_ble_eq_true rfl) dX0_needSettable_28 ⟨(Nat.le_of_ble_eq_true rfl), (Nat.le_of_ble_eq_true rfl)⟩ (fun r28 S1 H locs hp hC1 => ?_)
  obtain ⟨e1, hp⟩ := hp
  rw [e1] at hC1; replace hC := hC1
  subst hp
  refine b_if_eq (tgt := 48) S.1 S.2.1 dX0_needSettable_31 (by decide) (fun c31 => ?_) (fun c31 => ?_)
  · skip
    exact x_throw_iae (tx := "the pair does not fit") hs0 S hC (by decide) hnt hlocks hl.1 (by simp [settW, h1, h2, h3, h4, er, ea, eb, c31]) dX0_needSettable_48 dX0_needSettable_51 dX0_needSettable_52 dX0_needSettable_54 dX0_needSettable_57 ⟨(Nat.le_of_ble_eq_true rfl), (Nat.le_of_ble_eq_true rfl), (Nat.le_of_ble_eq_true rfl), (Nat.le_of_ble_eq_true rfl)⟩ ⟨(Nat.le_of_ble_eq_true rfl), (Nat.le_of_ble_eq_true rfl)⟩
  · skip
    refine lv_aload_n S.1 S.2.1 dX0_needSettable_34 rfl (lv_at hl 0 rfl) ?_
    refine lv_iload_n S.1 S.2.1 dX0_needSettable_35 rfl (lv_at hl 3 rfl) ?_
    refine lv_aload_n S.1 S.2.1 dX0_needSettable_36 rfl (lv_at hl 0 rfl) ?_
    refine x_get_seconds S hC dX0_needSettable_37 ?_
    refine lv_iload_n S.1 S.2.1 dX0_needSettable_40 rfl (lv_at hl 1 rfl) ?_
    refine x_ild S hC hn 4 (by decide) hr12 dX0_needSettable_41 ?_
    refine o_calli oiX S hC (c_X0_isOfKind l hn hb _) cw_RX0_X0_isOfKind ⟨rfl, rfl, by decide, by decide⟩ rfl hl.1 rfl (Nat.le_of_ble_eq_true rfl) dX0_needSettable_42 ⟨(Nat.le_of_ble_eq_true rfl), (Nat.le_of_ble_eq_true rfl)⟩ (fun r42 S1 H locs hp hC1 => ?_)
    obtain ⟨e1, hp⟩ := hp
    rw [e1] at hC1; replace hC := hC1
    subst hp
    refine b_if_ne (tgt := 58) S.1 S.2.1 dX0_needSettable_45 (by decide) (fun c45 => ?_) (fun c45 => ?_)
    · skip
      refine lv_aload_n S.1 S.2.1 dX0_needSettable_58 rfl (lv_at hl 0 rfl) ?_
      refine x_get_forms S hC dX0_needSettable_59 ?_
      refine lv_iload_n S.1 S.2.1 dX0_needSettable_62 rfl (lv_at hl 1 rfl) ?_
      refine x_ild S hC hn 2 (by decide) hr12 dX0_needSettable_63 ?_
      refine lv_iconst (v := nI 4) S.1 S.2.1 dX0_needSettable_64 rfl ?_
      refine lv_icmp_ne (tgt := 83) S.1 S.2.1 dX0_needSettable_65 (by decide) (fun c65 => ?_) (fun c65 => ?_)
      · skip
        exact vx_ret (o_vret S hr hlocks hC ⟨rfl, by simp [settW, h1, h2, h3, h4, er, ea, eb, c31, c45, c65]⟩ dX0_needSettable_83 (Nat.le_of_ble_eq_true rfl) (Nat.le_of_ble_eq_true rfl))
      · skip
        refine lv_iload_n S.1 S.2.1 dX0_needSettable_68 rfl (lv_at hl 2 rfl) ?_
        refine lv_iload_n S.1 S.2.1 dX0_needSettable_69 rfl (lv_at hl 3 rfl) ?_
        refine lv_icmp_ne (tgt := 83) S.1 S.2.1 dX0_needSettable_70 (by decide) (fun c70 => ?_) (fun c70 => ?_)
        · skip
          exact vx_ret (o_vret S hr hlocks hC ⟨rfl, by simp [settW, h1, h2, h3, h4, er, ea, eb, c31, c45, c65, c70]⟩ dX0_needSettable_83 (Nat.le_of_ble_eq_true rfl) (Nat.le_of_ble_eq_true rfl))
        · skip
          exact x_throw_iae (tx := "no thing is its own twin") hs0 S hC (by decide) hnt hlocks hl.1 (by simp [settW, h1, h2, h3, h4, er, ea, eb, c31, c45, c65, c70]) dX0_needSettable_73 dX0_needSettable_76 dX0_needSettable_77 dX0_needSettable_79 dX0_needSettable_82 ⟨(Nat.le_of_ble_eq_true rfl), (Nat.le_of_ble_eq_true rfl), (Nat.le_of_ble_eq_true rfl), (Nat.le_of_ble_eq_true rfl)⟩ ⟨(Nat.le_of_ble_eq_true rfl), (Nat.le_of_ble_eq_true rfl)⟩
    · skip
      exact x_throw_iae (tx := "the pair does not fit") hs0 S hC (by decide) hnt hlocks hl.1 (by simp [settW, h1, h2, h3, h4, er, ea, eb, c31, c45]) dX0_needSettable_48 dX0_needSettable_51 dX0_needSettable_52 dX0_needSettable_54 dX0_needSettable_57 ⟨(Nat.le_of_ble_eq_true rfl), (Nat.le_of_ble_eq_true rfl), (Nat.le_of_ble_eq_true rfl), (Nat.le_of_ble_eq_true rfl)⟩ ⟨(Nat.le_of_ble_eq_true rfl), (Nat.le_of_ble_eq_true rfl)⟩
def colF (S : RS) (r b : Nat) : Nat → Int64
  | 0 => 0
  | k + 1 => if hX S r k b then colF S r b k ||| bitN k else colF S r b k
set_option maxRecDepth 100000 in
set_option maxHeartbeats 4000000 in
theorem c_X0_column (l : Launch) {loc : Nat → Nat} {n : Nat} {g : Gc} (hn : n ≤ 40) {S0 : RS} {r b : Nat} (hr12 : r < 12) (hb : b < n) : MXl l yX0_column cX0_column 6 (some .long) (rmL 3 0 0) loc n g S0 [.int (nI r), .int (nI b)] (fun v S' => S' = S0 ∧ v = colF S0 r b n) := by
  refine o_enter (by decide) (Nat.le_of_ble_eq_true rfl) ?_
  intro p e s m below meth c ls S hr hlocks hC hl
  refine lv_lconst (v := 0) S.1 S.2.1 dX0_column_0 rfl ?_
  refine lv_lstore_n S.1 S.2.1 dX0_column_1 rfl hl (by decide) rfl (fun ls hl => ?_)
  refine lv_iconst (v := nI 0) S.1 S.2.1 dX0_column_2 rfl ?_
  refine lv_istore S.1 S.2.1 dX0_column_3 hl (by decide) rfl (fun ls hl => ?_)
  have loop : ∀ (k i : Nat), n - i < k → i ≤ n → ∀ (H : Heap) (locs : List Loc) (ls : Array Slot), CX loc n g (S0) s H locs → lv_has ls 6 [(0, .ref (loc 0)), (1, .int (nI r)), (2, .int (nI b)), (3, .long (colF S0 r b i)), (5, .int (nI i))] → W p l e (rmL 3 0 0) s m ([.ref (loc 0), .int (nI r), .int (nI b)] : List Value).toArray below meth c H locs 0 0 (MQ below (va_Ql (fun v S' => S' = S0 ∧ v = colF S0 r b n) (fun S' t => HX loc n g S' t.heap) (ZA loc 21)) ([.ref (loc 0), .int (nI r), .int (nI b)] : List Value).toArray s (rmL 3 0 0).cells (rmL 3 0 0).slots (ZA loc 21)) (F0 m 5 ls []) := by
    intro k
    induction k with
    | zero => intro i hk; omega
    | succ k ih =>
      intro i hk hi  H locs ls hC hl
      refine lv_iload S.1 S.2.1 dX0_column_5 (lv_at hl 4 rfl) ?_
      refine lv_aload_n S.1 S.2.1 dX0_column_7 rfl (lv_at hl 0 rfl) ?_
      refine x_get_things S hC dX0_column_8 ?_
      refine n_icmp_ge (tgt := 39) S.1 S.2.1 dX0_column_11 (by decide) (by omega) (by omega) (fun c11 => ?_) (fun c11 => ?_)
      · skip
        refine lv_lload_n S.1 S.2.1 dX0_column_39 rfl (lv_at hl 3 rfl) ?_
        exact o_lret S hr hlocks hC ⟨rfl, by rw [show n = i by omega]⟩ dX0_column_40 (Nat.le_of_ble_eq_true rfl) (Nat.le_of_ble_eq_true rfl)
      · skip
        refine lv_aload_n S.1 S.2.1 dX0_column_14 rfl (lv_at hl 0 rfl) ?_
        refine lv_iload_n S.1 S.2.1 dX0_column_15 rfl (lv_at hl 1 rfl) ?_
        refine lv_iload S.1 S.2.1 dX0_column_16 (lv_at hl 4 rfl) ?_
        refine lv_iload_n S.1 S.2.1 dX0_column_18 rfl (lv_at hl 2 rfl) ?_
        refine o_calli oiX S hC (c_X0_holds l hn hr12 (a := i) (by omega) hb) cw_RX0_X0_holds ⟨rfl, rfl, by decide, by decide⟩ rfl hl.1 rfl (Nat.le_of_ble_eq_true rfl) dX0_column_19 ⟨(Nat.le_of_ble_eq_true rfl), (Nat.le_of_ble_eq_true rfl)⟩ (fun r19 S1 H locs hp hC1 => ?_)
        obtain ⟨e1, hp⟩ := hp
        rw [e1] at hC1; replace hC := hC1
        subst hp
        refine b_if_eq (tgt := 33) S.1 S.2.1 dX0_column_22 (by decide) (fun c22 => ?_) (fun c22 => ?_)
        · skip
          refine lv_iinc (k := 4) S.1 S.2.1 dX0_column_33 hl rfl (n_inc _) (by decide) rfl (fun ls hl => ?_)
          refine lv_goto (tgt := 5) S.1 S.2.1 dX0_column_36 (by decide) ?_
          exact ih (i + 1) (by omega) (by omega) _ _ _ hC (by rw [colF, if_neg (by simp [c22])]; exact lv_sub hl [1, 2, 3, 4, 0] rfl)
        · skip
          refine lv_lload_n S.1 S.2.1 dX0_column_25 rfl (lv_at hl 3 rfl) ?_
          refine lv_iload S.1 S.2.1 dX0_column_26 (lv_at hl 4 rfl) ?_
          refine s_calll S (c_X0_bit l (nI i)) cw_RX0_X0_bit ⟨rfl, rfl, by decide, by decide⟩ rfl hl.1 rfl (Nat.le_of_ble_eq_true rfl) dX0_column_28 ⟨(Nat.le_of_ble_eq_true rfl), (Nat.le_of_ble_eq_true rfl)⟩ (fun r28 hp => ?_)
          subst hp
          refine lv_lor S.1 S.2.1 dX0_column_31 ?_
          refine lv_lstore_n S.1 S.2.1 dX0_column_32 rfl hl (by decide) rfl (fun ls hl => ?_)
          refine lv_iinc (k := 4) S.1 S.2.1 dX0_column_33 hl rfl (n_inc _) (by decide) rfl (fun ls hl => ?_)
          refine lv_goto (tgt := 5) S.1 S.2.1 dX0_column_36 (by decide) ?_
          exact ih (i + 1) (by omega) (by omega) _ _ _ hC (by rw [colF, if_pos c22]; exact lv_sub hl [2, 3, 4, 1, 0] rfl)
  exact loop (n + 1) 0 (by omega) (by omega) _ _ _ hC (lv_sub hl [2, 3, 4, 1, 0] rfl)
def makeF (S : RS) (r : Nat) (v : Int64) : Nat → RS
  | 0 => S
  | k + 1 => if tb v k then sW (makeF S r v k) r k v else makeF S r v k
set_option maxRecDepth 100000 in
set_option maxHeartbeats 4000000 in
theorem c_X0_makeClass (l : Launch) {loc : Nat → Nat} {n : Nat} {g : Gc} (hn : n ≤ 40) {S0 : RS} {r : Nat} (hr12 : r < 12) (v : Int64) : MXv l yX0_makeClass cX0_makeClass 5 none (rmL 2 0 0) loc n g S0 [.int (nI r), .long v] (fun S' => S' = makeF S0 r v n) := by
  refine o_enter (by decide) (Nat.le_of_ble_eq_true rfl) ?_
  intro p e s m below meth c ls S hr hlocks hC hl
  refine lv_iconst (v := nI 0) S.1 S.2.1 dX0_makeClass_0 rfl ?_
  refine lv_istore S.1 S.2.1 dX0_makeClass_1 hl (by decide) rfl (fun ls hl => ?_)
  have loop : ∀ (k i : Nat), n - i < k → i ≤ n → ∀ (H : Heap) (locs : List Loc) (ls : Array Slot), CX loc n g (makeF S0 r v i) s H locs → lv_has ls 5 [(0, .ref (loc 0)), (1, .int (nI r)), (2, .long v), (4, .int (nI i))] → W p l e (rmL 2 0 0) s m ([.ref (loc 0), .int (nI r), .long v] : List Value).toArray below meth c H locs 0 0 (MQ below (va_Qv (fun S' => S' = makeF S0 r v n) (fun S' t => HX loc n g S' t.heap) (ZA loc 21)) ([.ref (loc 0), .int (nI r), .long v] : List Value).toArray s (rmL 2 0 0).cells (rmL 2 0 0).slots (ZA loc 21)) (F0 m 3 ls []) := by
    intro k
    induction k with
    | zero => intro i hk; omega
    | succ k ih =>
      intro i hk hi  H locs ls hC hl
      refine lv_iload S.1 S.2.1 dX0_makeClass_3 (lv_at hl 3 rfl) ?_
      refine lv_aload_n S.1 S.2.1 dX0_makeClass_5 rfl (lv_at hl 0 rfl) ?_
      refine x_get_things S hC dX0_makeClass_6 ?_
      refine n_icmp_ge (tgt := 40) S.1 S.2.1 dX0_makeClass_9 (by decide) (by omega) (by omega) (fun c9 => ?_) (fun c9 => ?_)
      · skip
        exact o_vret S hr hlocks hC (by rw [show n = i by omega]) dX0_makeClass_40 (Nat.le_of_ble_eq_true rfl) (Nat.le_of_ble_eq_true rfl)
      · skip
        refine lv_lload_n S.1 S.2.1 dX0_makeClass_12 rfl (lv_at hl 2 rfl) ?_
        refine lv_iload S.1 S.2.1 dX0_makeClass_13 (lv_at hl 3 rfl) ?_
        refine s_calll S (c_X0_bit l (nI i)) cw_RX0_X0_bit ⟨rfl, rfl, by decide, by decide⟩ rfl hl.1 rfl (Nat.le_of_ble_eq_true rfl) dX0_makeClass_15 ⟨(Nat.le_of_ble_eq_true rfl), (Nat.le_of_ble_eq_true rfl)⟩ (fun r15 hp => ?_)
        subst hp
        refine lv_land S.1 S.2.1 dX0_makeClass_18 ?_
        refine lv_lconst (v := 0) S.1 S.2.1 dX0_makeClass_19 rfl ?_
        refine W.lcmp S.1 S.2.1 dX0_makeClass_20 ?_
        refine lv_if_eq (tgt := 34) S.1 S.2.1 dX0_makeClass_21 (by decide) (fun c21 => ?_) (fun c21 => ?_)
        · skip
          refine lv_iinc (k := 3) S.1 S.2.1 dX0_makeClass_34 hl rfl (n_inc _) (by decide) rfl (fun ls hl => ?_)
          refine lv_goto (tgt := 3) S.1 S.2.1 dX0_makeClass_37 (by decide) ?_
          have e9 := (tb_test (by omega)).mp ((lg_cmp_eq _ _).mp c21)
          exact ih (i + 1) (by omega) (by omega) _ _ _ (by rw [makeF, if_neg (by simp [e9])]; exact hC) (lv_sub hl [1, 2, 3, 0] rfl)
        · skip
          refine lv_aload_n S.1 S.2.1 dX0_makeClass_24 rfl (lv_at hl 0 rfl) ?_
          refine x_get_rows S hC dX0_makeClass_25 ?_
          refine lv_iload_n S.1 S.2.1 dX0_makeClass_28 rfl (lv_at hl 1 rfl) ?_
          refine x_aald S hC hr12 dX0_makeClass_29 ?_
          refine lv_iload S.1 S.2.1 dX0_makeClass_30 (lv_at hl 3 rfl) ?_
          refine lv_lload_n S.1 S.2.1 dX0_makeClass_32 rfl (lv_at hl 2 rfl) ?_
          refine x_lst S hC hn hr12 (by omega) dX0_makeClass_33 (fun H locs hC => ?_)
          refine lv_iinc (k := 3) S.1 S.2.1 dX0_makeClass_34 hl rfl (n_inc _) (by decide) rfl (fun ls hl => ?_)
          refine lv_goto (tgt := 3) S.1 S.2.1 dX0_makeClass_37 (by decide) ?_
          have e9 := Bool.of_not_eq_false (fun q => c21 ((lg_cmp_eq _ _).mpr ((tb_test (b := i) (by omega)).mpr q)))
          exact ih (i + 1) (by omega) (by omega) _ _ _ (by rw [makeF, if_pos e9]; exact hC) (lv_sub hl [1, 2, 3, 0] rfl)
  exact loop (n + 1) 0 (by omega) (by omega) _ _ _ hC (lv_sub hl [1, 2, 3, 0] rfl)
/-- a pair goes -/
def nbit (v : Int64) (b : Nat) : Int64 := v &&& (bitN b ^^^ (-1))
def partF (S : RS) (n r a b : Nat) : RS :=
  if S.2.1 2 r = nI 6 then makeF (makeF S r (nbit (S.2.2 r a) a) n) r (bitN a) n
  else if bothW S r then sW (sW S r a (nbit (S.2.2 r a) b)) r b (nbit ((sW S r a (nbit (S.2.2 r a) b)).2.2 r b) a) else sW S r a (nbit (S.2.2 r a) b)
def joinF (S : RS) (n r a b : Nat) : RS :=
  if S.2.1 2 r = nI 6 then makeF S r (S.2.2 r a ||| S.2.2 r b) n
  else if bothW S r then sW (sW S r a (S.2.2 r a ||| bitN b)) r b ((sW S r a (S.2.2 r a ||| bitN b)).2.2 r b ||| bitN a) else sW S r a (S.2.2 r a ||| bitN b)
set_option maxRecDepth 100000 in
set_option maxHeartbeats 4000000 in
theorem c_X0_part (l : Launch) {loc : Nat → Nat} {n : Nat} {g : Gc} (hn : n ≤ 40) {S0 : RS} {r a b : Nat} (hr12 : r < 12) (ha : a < n) (hb : b < n) : MXv l yX0_part cX0_part 4 none (rmL 3 0 0) loc n g S0 [.int (nI r), .int (nI a), .int (nI b)] (fun S' => S' = partF S0 n r a b) := by
  refine o_enter (by decide) (Nat.le_of_ble_eq_true rfl) ?_
  intro p e s m below meth c ls S hr hlocks hC hl
  refine lv_aload_n S.1 S.2.1 dX0_part_0 rfl (lv_at hl 0 rfl) ?_
  refine x_get_forms S hC dX0_part_1 ?_
  refine lv_iload_n S.1 S.2.1 dX0_part_4 rfl (lv_at hl 1 rfl) ?_
  refine x_ild S hC hn 2 (by decide) hr12 dX0_part_5 ?_
  refine lv_bipush (v := nI 6) S.1 S.2.1 dX0_part_6 rfl ?_
  refine lv_icmp_ne (tgt := 43) S.1 S.2.1 dX0_part_8 (by decide) (fun c8 => ?_) (fun c8 => ?_)
  · skip
    refine lv_aload_n S.1 S.2.1 dX0_part_43 rfl (lv_at hl 0 rfl) ?_
    refine x_get_rows S hC dX0_part_44 ?_
    refine lv_iload_n S.1 S.2.1 dX0_part_47 rfl (lv_at hl 1 rfl) ?_
    refine x_aald S hC hr12 dX0_part_48 ?_
    refine lv_iload_n S.1 S.2.1 dX0_part_49 rfl (lv_at hl 2 rfl) ?_
    refine lv_dup2_11 S.1 S.2.1 dX0_part_50 rfl rfl ?_
    refine x_lld S hC hn hr12 ha dX0_part_51 ?_
    refine lv_iload_n S.1 S.2.1 dX0_part_52 rfl (lv_at hl 3 rfl) ?_
    refine s_calll S (c_X0_bit l (nI b)) cw_RX0_X0_bit ⟨rfl, rfl, by decide, by decide⟩ rfl hl.1 rfl (Nat.le_of_ble_eq_true rfl) dX0_part_53 ⟨(Nat.le_of_ble_eq_true rfl), (Nat.le_of_ble_eq_true rfl)⟩ (fun r53 hp => ?_)
    subst hp
    refine lv_ldc2 S.1 S.2.1 S.2.2.2.1 (S.2.2.2.2 _ w_92) dX0_part_56 ?_
    refine lv_lxor S.1 S.2.1 dX0_part_59 ?_
    refine lv_land S.1 S.2.1 dX0_part_60 ?_
    refine x_lst S hC hn hr12 ha dX0_part_61 (fun H locs hC => ?_)
    refine lv_aload_n S.1 S.2.1 dX0_part_62 rfl (lv_at hl 0 rfl) ?_
    refine lv_iload_n S.1 S.2.1 dX0_part_63 rfl (lv_at hl 1 rfl) ?_
    refine o_calli oiX S hC (c_X0_goesBothWays l hn hr12) cw_RX0_X0_goesBothWays ⟨rfl, rfl, by decide, by decide⟩ rfl hl.1 rfl (Nat.le_of_ble_eq_true rfl) dX0_part_64 ⟨(Nat.le_of_ble_eq_true rfl), (Nat.le_of_ble_eq_true rfl)⟩ (fun r64 S1 H locs hp hC1 => ?_)
    obtain ⟨e1, hp⟩ := hp
    rw [e1] at hC1; replace hC := hC1
    subst hp
    refine b_if_eq (tgt := 89) S.1 S.2.1 dX0_part_67 (by decide) (fun c67 => ?_) (fun c67 => ?_)
    · skip
      exact o_vret S hr hlocks hC (by rw [partF, if_neg c8, if_neg (by rw [show bothW S0 r = false from c67]; decide)]; rfl) dX0_part_89 (Nat.le_of_ble_eq_true rfl) (Nat.le_of_ble_eq_true rfl)
    · skip
      refine lv_aload_n S.1 S.2.1 dX0_part_70 rfl (lv_at hl 0 rfl) ?_
      refine x_get_rows S hC dX0_part_71 ?_
      refine lv_iload_n S.1 S.2.1 dX0_part_74 rfl (lv_at hl 1 rfl) ?_
      refine x_aald S hC hr12 dX0_part_75 ?_
      refine lv_iload_n S.1 S.2.1 dX0_part_76 rfl (lv_at hl 3 rfl) ?_
      refine lv_dup2_11 S.1 S.2.1 dX0_part_77 rfl rfl ?_
      refine x_lld S hC hn hr12 hb dX0_part_78 ?_
      refine lv_iload_n S.1 S.2.1 dX0_part_79 rfl (lv_at hl 2 rfl) ?_
      refine s_calll S (c_X0_bit l (nI a)) cw_RX0_X0_bit ⟨rfl, rfl, by decide, by decide⟩ rfl hl.1 rfl (Nat.le_of_ble_eq_true rfl) dX0_part_80 ⟨(Nat.le_of_ble_eq_true rfl), (Nat.le_of_ble_eq_true rfl)⟩ (fun r80 hp => ?_)
      subst hp
      refine lv_ldc2 S.1 S.2.1 S.2.2.2.1 (S.2.2.2.2 _ w_92) dX0_part_83 ?_
      refine lv_lxor S.1 S.2.1 dX0_part_86 ?_
      refine lv_land S.1 S.2.1 dX0_part_87 ?_
      refine x_lst S hC hn hr12 hb dX0_part_88 (fun H locs hC => ?_)
      exact o_vret S hr hlocks hC (by rw [partF, if_neg c8, if_pos (show bothW S0 r = true from c67)]; rfl) dX0_part_89 (Nat.le_of_ble_eq_true rfl) (Nat.le_of_ble_eq_true rfl)
  · skip
    refine lv_aload_n S.1 S.2.1 dX0_part_11 rfl (lv_at hl 0 rfl) ?_
    refine lv_iload_n S.1 S.2.1 dX0_part_12 rfl (lv_at hl 1 rfl) ?_
    refine lv_aload_n S.1 S.2.1 dX0_part_13 rfl (lv_at hl 0 rfl) ?_
    refine x_get_rows S hC dX0_part_14 ?_
    refine lv_iload_n S.1 S.2.1 dX0_part_17 rfl (lv_at hl 1 rfl) ?_
    refine x_aald S hC hr12 dX0_part_18 ?_
    refine lv_iload_n S.1 S.2.1 dX0_part_19 rfl (lv_at hl 2 rfl) ?_
    refine x_lld S hC hn hr12 ha dX0_part_20 ?_
    refine lv_iload_n S.1 S.2.1 dX0_part_21 rfl (lv_at hl 2 rfl) ?_
    refine s_calll S (c_X0_bit l (nI a)) cw_RX0_X0_bit ⟨rfl, rfl, by decide, by decide⟩ rfl hl.1 rfl (Nat.le_of_ble_eq_true rfl) dX0_part_22 ⟨(Nat.le_of_ble_eq_true rfl), (Nat.le_of_ble_eq_true rfl)⟩ (fun r22 hp => ?_)
    subst hp
    refine lv_ldc2 S.1 S.2.1 S.2.2.2.1 (S.2.2.2.2 _ w_92) dX0_part_25 ?_
    refine lv_lxor S.1 S.2.1 dX0_part_28 ?_
    refine lv_land S.1 S.2.1 dX0_part_29 ?_
    refine o_callv oiX S hC (c_X0_makeClass l hn hr12 _) cw_RX0_X0_makeClass ⟨rfl, rfl, by decide, by decide⟩ rfl hl.1 rfl (Nat.le_of_ble_eq_true rfl) dX0_part_30 ⟨(Nat.le_of_ble_eq_true rfl), (Nat.le_of_ble_eq_true rfl)⟩ (fun S1 H locs hp hC1 => ?_)
    have e1 := hp
    rw [e1] at hC1; replace hC := hC1
    refine lv_aload_n S.1 S.2.1 dX0_part_33 rfl (lv_at hl 0 rfl) ?_
    refine lv_iload_n S.1 S.2.1 dX0_part_34 rfl (lv_at hl 1 rfl) ?_
    refine lv_iload_n S.1 S.2.1 dX0_part_35 rfl (lv_at hl 2 rfl) ?_
    refine s_calll S (c_X0_bit l (nI a)) cw_RX0_X0_bit ⟨rfl, rfl, by decide, by decide⟩ rfl hl.1 rfl (Nat.le_of_ble_eq_true rfl) dX0_part_36 ⟨(Nat.le_of_ble_eq_true rfl), (Nat.le_of_ble_eq_true rfl)⟩ (fun r36 hp => ?_)
    subst hp
    refine o_callv oiX S hC (c_X0_makeClass l hn hr12 _) cw_RX0_X0_makeClass ⟨rfl, rfl, by decide, by decide⟩ rfl hl.1 rfl (Nat.le_of_ble_eq_true rfl) dX0_part_39 ⟨(Nat.le_of_ble_eq_true rfl), (Nat.le_of_ble_eq_true rfl)⟩ (fun S1 H locs hp hC1 => ?_)
    have e1 := hp
    rw [e1] at hC1; replace hC := hC1
    exact o_vret S hr hlocks hC (by rw [partF, if_pos c8]; rfl) dX0_part_42 (Nat.le_of_ble_eq_true rfl) (Nat.le_of_ble_eq_true rfl)
set_option maxRecDepth 100000 in
set_option maxHeartbeats 4000000 in
theorem c_X0_join (l : Launch) {loc : Nat → Nat} {n : Nat} {g : Gc} (hn : n ≤ 40) {S0 : RS} {r a b : Nat} (hr12 : r < 12) (ha : a < n) (hb : b < n) : MXv l yX0_join cX0_join 4 none (rmL 3 0 0) loc n g S0 [.int (nI r), .int (nI a), .int (nI b)] (fun S' => S' = joinF S0 n r a b) := by
  refine o_enter (by decide) (Nat.le_of_ble_eq_true rfl) ?_
  intro p e s m below meth c ls S hr hlocks hC hl
  refine lv_aload_n S.1 S.2.1 dX0_join_0 rfl (lv_at hl 0 rfl) ?_
  refine x_get_forms S hC dX0_join_1 ?_
  refine lv_iload_n S.1 S.2.1 dX0_join_4 rfl (lv_at hl 1 rfl) ?_
  refine x_ild S hC hn 2 (by decide) hr12 dX0_join_5 ?_
  refine lv_bipush (v := nI 6) S.1 S.2.1 dX0_join_6 rfl ?_
  refine lv_icmp_ne (tgt := 34) S.1 S.2.1 dX0_join_8 (by decide) (fun c8 => ?_) (fun c8 => ?_)
  · skip
    refine lv_aload_n S.1 S.2.1 dX0_join_34 rfl (lv_at hl 0 rfl) ?_
    refine x_get_rows S hC dX0_join_35 ?_
    refine lv_iload_n S.1 S.2.1 dX0_join_38 rfl (lv_at hl 1 rfl) ?_
    refine x_aald S hC hr12 dX0_join_39 ?_
    refine lv_iload_n S.1 S.2.1 dX0_join_40 rfl (lv_at hl 2 rfl) ?_
    refine lv_dup2_11 S.1 S.2.1 dX0_join_41 rfl rfl ?_
    refine x_lld S hC hn hr12 ha dX0_join_42 ?_
    refine lv_iload_n S.1 S.2.1 dX0_join_43 rfl (lv_at hl 3 rfl) ?_
    refine s_calll S (c_X0_bit l (nI b)) cw_RX0_X0_bit ⟨rfl, rfl, by decide, by decide⟩ rfl hl.1 rfl (Nat.le_of_ble_eq_true rfl) dX0_join_44 ⟨(Nat.le_of_ble_eq_true rfl), (Nat.le_of_ble_eq_true rfl)⟩ (fun r44 hp => ?_)
    subst hp
    refine lv_lor S.1 S.2.1 dX0_join_47 ?_
    refine x_lst S hC hn hr12 ha dX0_join_48 (fun H locs hC => ?_)
    refine lv_aload_n S.1 S.2.1 dX0_join_49 rfl (lv_at hl 0 rfl) ?_
    refine lv_iload_n S.1 S.2.1 dX0_join_50 rfl (lv_at hl 1 rfl) ?_
    refine o_calli oiX S hC (c_X0_goesBothWays l hn hr12) cw_RX0_X0_goesBothWays ⟨rfl, rfl, by decide, by decide⟩ rfl hl.1 rfl (Nat.le_of_ble_eq_true rfl) dX0_join_51 ⟨(Nat.le_of_ble_eq_true rfl), (Nat.le_of_ble_eq_true rfl)⟩ (fun r51 S1 H locs hp hC1 => ?_)
    obtain ⟨e1, hp⟩ := hp
    rw [e1] at hC1; replace hC := hC1
    subst hp
    refine b_if_eq (tgt := 72) S.1 S.2.1 dX0_join_54 (by decide) (fun c54 => ?_) (fun c54 => ?_)
    · skip
      exact o_vret S hr hlocks hC (by rw [joinF, if_neg c8, if_neg (by rw [show bothW S0 r = false from c54]; decide)]; rfl) dX0_join_72 (Nat.le_of_ble_eq_true rfl) (Nat.le_of_ble_eq_true rfl)
    · skip
      refine lv_aload_n S.1 S.2.1 dX0_join_57 rfl (lv_at hl 0 rfl) ?_
      refine x_get_rows S hC dX0_join_58 ?_
      refine lv_iload_n S.1 S.2.1 dX0_join_61 rfl (lv_at hl 1 rfl) ?_
      refine x_aald S hC hr12 dX0_join_62 ?_
      refine lv_iload_n S.1 S.2.1 dX0_join_63 rfl (lv_at hl 3 rfl) ?_
      refine lv_dup2_11 S.1 S.2.1 dX0_join_64 rfl rfl ?_
      refine x_lld S hC hn hr12 hb dX0_join_65 ?_
      refine lv_iload_n S.1 S.2.1 dX0_join_66 rfl (lv_at hl 2 rfl) ?_
      refine s_calll S (c_X0_bit l (nI a)) cw_RX0_X0_bit ⟨rfl, rfl, by decide, by decide⟩ rfl hl.1 rfl (Nat.le_of_ble_eq_true rfl) dX0_join_67 ⟨(Nat.le_of_ble_eq_true rfl), (Nat.le_of_ble_eq_true rfl)⟩ (fun r67 hp => ?_)
      subst hp
      refine lv_lor S.1 S.2.1 dX0_join_70 ?_
      refine x_lst S hC hn hr12 hb dX0_join_71 (fun H locs hC => ?_)
      exact o_vret S hr hlocks hC (by rw [joinF, if_neg c8, if_pos (show bothW S0 r = true from c54)]; rfl) dX0_join_72 (Nat.le_of_ble_eq_true rfl) (Nat.le_of_ble_eq_true rfl)
  · skip
    refine lv_aload_n S.1 S.2.1 dX0_join_11 rfl (lv_at hl 0 rfl) ?_
    refine lv_iload_n S.1 S.2.1 dX0_join_12 rfl (lv_at hl 1 rfl) ?_
    refine lv_aload_n S.1 S.2.1 dX0_join_13 rfl (lv_at hl 0 rfl) ?_
    refine x_get_rows S hC dX0_join_14 ?_
    refine lv_iload_n S.1 S.2.1 dX0_join_17 rfl (lv_at hl 1 rfl) ?_
    refine x_aald S hC hr12 dX0_join_18 ?_
    refine lv_iload_n S.1 S.2.1 dX0_join_19 rfl (lv_at hl 2 rfl) ?_
    refine x_lld S hC hn hr12 ha dX0_join_20 ?_
    refine lv_aload_n S.1 S.2.1 dX0_join_21 rfl (lv_at hl 0 rfl) ?_
    refine x_get_rows S hC dX0_join_22 ?_
    refine lv_iload_n S.1 S.2.1 dX0_join_25 rfl (lv_at hl 1 rfl) ?_
    refine x_aald S hC hr12 dX0_join_26 ?_
    refine lv_iload_n S.1 S.2.1 dX0_join_27 rfl (lv_at hl 3 rfl) ?_
    refine x_lld S hC hn hr12 hb dX0_join_28 ?_
    refine lv_lor S.1 S.2.1 dX0_join_29 ?_
    refine o_callv oiX S hC (c_X0_makeClass l hn hr12 _) cw_RX0_X0_makeClass ⟨rfl, rfl, by decide, by decide⟩ rfl hl.1 rfl (Nat.le_of_ble_eq_true rfl) dX0_join_30 ⟨(Nat.le_of_ble_eq_true rfl), (Nat.le_of_ble_eq_true rfl)⟩ (fun S1 H locs hp hC1 => ?_)
    have e1 := hp
    rw [e1] at hC1; replace hC := hC1
    exact o_vret S hr hlocks hC (by rw [joinF, if_pos c8]) dX0_join_33 (Nat.le_of_ble_eq_true rfl) (Nat.le_of_ble_eq_true rfl)
def pushPF (S : RS) (n r a b : Nat) : RS :=
  if nI 2 ≤ S.1 2 then partF S n r a b
  else sI (sA (sA (partF S n r a b) 5 (ixN (S.1 2)) (nI a)) 6 (ixN (S.1 2)) (nI b)) 2 (nI (ixN (S.1 2) + 1))
theorem makeF_1 (S : RS) (r : Nat) (v : Int64) : ∀ k, (makeF S r v k).1 = S.1 ∧ (makeF S r v k).2.1 = S.2.1
  | 0 => ⟨rfl, rfl⟩
  | k + 1 => by
    have ih := makeF_1 S r v k
    unfold makeF
    split
    · exact ih
    · exact ih
theorem partF_1 (S : RS) (n r a b : Nat) : (partF S n r a b).1 = S.1 ∧ (partF S n r a b).2.1 = S.2.1 := by
  unfold partF
  split
  · have h1 := makeF_1 (makeF S r (nbit (S.2.2 r a) a) n) r (bitN a) n
    have h2 := makeF_1 S r (nbit (S.2.2 r a) a) n
    exact ⟨h1.1.trans h2.1, h1.2.trans h2.2⟩
  · split
    · exact ⟨rfl, rfl⟩
    · exact ⟨rfl, rfl⟩
set_option maxRecDepth 100000 in
set_option maxHeartbeats 4000000 in
theorem c_X0_pushPair (l : Launch) {loc : Nat → Nat} {n : Nat} {g : Gc} (hn : n ≤ 40) {S0 : RS} {r a b : Nat} (hr12 : r < 12) (ha : a < n) (hb : b < n) {q : Nat} (hq : q ≤ 2) (hpc : S0.1 2 = nI q) : MXv l yX0_pushPair cX0_pushPair 4 none (rmL 4 0 0) loc n g S0 [.int (nI r), .int (nI a), .int (nI b)] (fun S' => S' = pushPF S0 n r a b) := by
  refine o_enter (by decide) (Nat.le_of_ble_eq_true rfl) ?_
  intro p e s m below meth c ls S hr hlocks hC hl
  refine lv_aload_n S.1 S.2.1 dX0_pushPair_0 rfl (lv_at hl 0 rfl) ?_
  refine lv_iload_n S.1 S.2.1 dX0_pushPair_1 rfl (lv_at hl 1 rfl) ?_
  refine lv_iload_n S.1 S.2.1 dX0_pushPair_2 rfl (lv_at hl 2 rfl) ?_
  refine lv_iload_n S.1 S.2.1 dX0_pushPair_3 rfl (lv_at hl 3 rfl) ?_
  refine o_callv oiX S hC (c_X0_part l hn hr12 ha hb) cw_RX0_X0_part ⟨rfl, rfl, by decide, by decide⟩ rfl hl.1 rfl (Nat.le_of_ble_eq_true rfl) dX0_pushPair_4 ⟨(Nat.le_of_ble_eq_true rfl), (Nat.le_of_ble_eq_true rfl)⟩ (fun S1 H locs hp hC1 => ?_)
  have e1 := hp
  rw [e1] at hC1; replace hC := hC1
  have eq2 : (partF S0 n r a b).1 2 = nI q := by rw [(partF_1 S0 n r a b).1, hpc]
  have eix : ixN (S0.1 2) = q := by rw [hpc]; exact ixN_nI (by omega)
  refine lv_aload_n S.1 S.2.1 dX0_pushPair_7 rfl (lv_at hl 0 rfl) ?_
  refine x_get_pushedCount S hC dX0_pushPair_8 ?_
  rw [eq2]
  refine lv_iconst (v := nI 2) S.1 S.2.1 dX0_pushPair_11 rfl ?_
  refine n_icmp_ge (tgt := 45) S.1 S.2.1 dX0_pushPair_12 (by decide) (by omega) (by omega) (fun c12 => ?_) (fun c12 => ?_)
  · skip
    exact o_vret S hr hlocks hC (by rw [pushPF, hpc, if_pos ((nI_leI (by omega) (by omega)).mpr c12)]) dX0_pushPair_45 (Nat.le_of_ble_eq_true rfl) (Nat.le_of_ble_eq_true rfl)
  · skip
    refine lv_aload_n S.1 S.2.1 dX0_pushPair_15 rfl (lv_at hl 0 rfl) ?_
    refine x_get_pushedFirsts S hC dX0_pushPair_16 ?_
    refine lv_aload_n S.1 S.2.1 dX0_pushPair_19 rfl (lv_at hl 0 rfl) ?_
    refine x_get_pushedCount S hC dX0_pushPair_20 ?_
    rw [eq2]
    refine lv_iload_n S.1 S.2.1 dX0_pushPair_23 rfl (lv_at hl 2 rfl) ?_
    refine x_ist S hC hn 5 (by decide) (show q < 2 by omega) dX0_pushPair_24 (fun H locs hC => ?_)
    refine lv_aload_n S.1 S.2.1 dX0_pushPair_25 rfl (lv_at hl 0 rfl) ?_
    refine x_get_pushedSeconds S hC dX0_pushPair_26 ?_
    refine lv_aload_n S.1 S.2.1 dX0_pushPair_29 rfl (lv_at hl 0 rfl) ?_
    refine x_get_pushedCount S hC dX0_pushPair_30 ?_
    rw [show (sA (partF S0 n r a b) 5 q (nI a)).1 2 = nI q from eq2]
    refine lv_iload_n S.1 S.2.1 dX0_pushPair_33 rfl (lv_at hl 3 rfl) ?_
    refine x_ist S hC hn 6 (by decide) (show q < 2 by omega) dX0_pushPair_34 (fun H locs hC => ?_)
    refine lv_aload_n S.1 S.2.1 dX0_pushPair_35 rfl (lv_at hl 0 rfl) ?_
    refine lv_dup S.1 S.2.1 dX0_pushPair_36 rfl ?_
    refine x_get_pushedCount S hC dX0_pushPair_37 ?_
    rw [show (sA (sA (partF S0 n r a b) 5 q (nI a)) 6 q (nI b)).1 2 = nI q from eq2]
    refine lv_iconst (v := nI 1) S.1 S.2.1 dX0_pushPair_40 rfl ?_
    refine t_iadd S.1 S.2.1 dX0_pushPair_41 (nI_add _ _) ?_
    refine x_put_pushedCount S hC dX0_pushPair_42 (fun H locs hC => ?_)
    exact o_vret S hr hlocks hC (by rw [pushPF, if_neg (by rw [hpc]; exact fun h => absurd ((nI_leI (by omega) (by omega)).mp h) (by omega)), eix]) dX0_pushPair_45 (Nat.le_of_ble_eq_true rfl) (Nat.le_of_ble_eq_true rfl)
end
section
theorem n_min {a b : Nat} (ha : a < 2 ^ 31) (hb : b < 2 ^ 31) : (if nI b < nI a then nI b else nI a) = nI (min a b) := by
  by_cases h : b < a
  · rw [if_pos ((nI_ltI hb ha).mpr h), Nat.min_eq_right (by omega)]
  · rw [if_neg (fun q => h ((nI_ltI hb ha).mp q)), Nat.min_eq_left (by omega)]
theorem n_max {a b : Nat} (ha : a < 2 ^ 31) (hb : b < 2 ^ 31) : (if nI a < nI b then nI b else nI a) = nI (max a b) := by
  by_cases h : a < b
  · rw [if_pos ((nI_ltI ha hb).mpr h), Nat.max_eq_right (by omega)]
  · rw [if_neg (fun q => h ((nI_ltI ha hb).mp q)), Nat.max_eq_left (by omega)]
section SP
variable {p : Program} {l : Launch} {e : Env} {R : Room} {s : State} {m : MethodId} {args : Array Value} {below : List Frame} {meth : Method} {c : Code} {H : Heap} {locs : List Loc} {cells slots : Nat} {Q : State → Prop}
variable {cc : ByteArray} {pc nL : Nat} {ls : Array Slot} {rest : List Value} {loc : Nat → Nat} {n : Nat} {g : Gc} {S0 : RS}
theorem x_min (S : CallFix p m c cc nL s args WA RX0) (hl : ls.size = nL) {a b : Nat} (ha : a < 2 ^ 31) (hb : b < 2 ^ 31) (hR : 1 ≤ R.frames ∧ (rest.map fun v => v.category).sum + 13 ≤ R.locals ∧ cells ≤ R.cells ∧ slots ≤ R.slots) (hdg : decode cc pc = .ok (.invokestatic 9, 3))
    (kk : W p l e R s m args below meth c H locs cells slots Q (F0 m (pc + 3) ls (.int (nI (min a b)) :: rest))) : W p l e R s m args below meth c H locs cells slots Q (F0 m pc ls (.int (nI b) :: .int (nI a) :: rest)) := by
  refine va_mmin S.1 S.2.1 (S.2.2.1.trans hl.symm) S.2.2.2.1 (S.2.2.2.2 _ w_4) (S.2.2.2.2 _ w_5) (S.2.2.2.2 _ w_6) (S.2.2.2.2 _ w_7) hR.1 hR.2.1 hR.2.2.1 hR.2.2.2 hdg ?_
  rw [n_min ha hb]
  exact kk
theorem x_max (S : CallFix p m c cc nL s args WA RX0) (hl : ls.size = nL) {a b : Nat} (ha : a < 2 ^ 31) (hb : b < 2 ^ 31) (hR : 1 ≤ R.frames ∧ (rest.map fun v => v.category).sum + 13 ≤ R.locals ∧ cells ≤ R.cells ∧ slots ≤ R.slots) (hdg : decode cc pc = .ok (.invokestatic 15, 3))
    (kk : W p l e R s m args below meth c H locs cells slots Q (F0 m (pc + 3) ls (.int (nI (max a b)) :: rest))) : W p l e R s m args below meth c H locs cells slots Q (F0 m pc ls (.int (nI b) :: .int (nI a) :: rest)) := by
  refine va_mmax S.1 S.2.1 (S.2.2.1.trans hl.symm) S.2.2.2.1 (S.2.2.2.2 _ w_8) (S.2.2.2.2 _ w_9) (S.2.2.2.2 _ w_6) (S.2.2.2.2 _ w_10) hR.1 hR.2.1 hR.2.2.1 hR.2.2.2 hdg ?_
  rw [n_max ha hb]
  exact kk
def cpF (S : RS) (r j : Nat) : RS := (S.1, S.2.1, fun q a => if q = r then S.2.2 j a else S.2.2 q a)
theorem x_rowc (h : HX loc n g S0 H) {r : Nat} (hr : r < 12) : H[loc (10 + r)]? = some (vp_cell (g.2 3) (n, .inr (.inl (S0.2.2 r)))) := by
  have := h.2 (9 + r) (by omega)
  rw [show 9 + r + 1 = 10 + r by omega, show clX0 g (9 + r) = g.2 3 by unfold clX0; rw [if_neg (by omega), if_neg (by omega)], show lnX0 n (9 + r) = n by rw [Nat.add_comm]; rfl] at this
  rw [this]
  show some (arrV (g.2 3) n (cX0 loc S0.2.1 S0.2.2 (9 + r))) = some (arrV (g.2 3) n (fun j => .long (S0.2.2 r j)))
  refine congrArg some (congrArg (arrV _ _) (funext fun b => ?_))
  unfold cX0
  rw [if_neg (by omega), if_neg (by omega), show 9 + r - 9 = r by omega]
theorem x_copy (S : CallFix p m c cc nL s args WA RX0) (hC : CX loc n g S0 s H locs) (hn : n ≤ 40) {j r : Nat} (hj : j < 12) (hr : r < 12) (hl : ls.size = nL) (hR : 1 ≤ R.frames ∧ (rest.map fun v => v.category).sum + (nativeFrameWords "java/lang/System" "arraycopy" 5 + 11) ≤ R.locals) (hdg : decode cc pc = .ok (.invokestatic 247, 3))
    (kk : ∀ (H1 : Heap) (locs1 : List Loc), CX loc n g (cpF S0 r j) s H1 locs1 → W p l e R s m args below meth c H1 locs1 cells slots Q (F0 m (pc + 3) ls rest)) : W p l e R s m args below meth c H locs cells slots Q (F0 m pc ls (.int (nI n) :: .int (nI 0) :: .ref (loc (10 + r)) :: .int (nI 0) :: .ref (loc (10 + j)) :: rest)) := by
  intro T hT X
  obtain ⟨hE, hH, hS⟩ := hC
  have hc0 := x_rowc hH hj
  have hc1 := x_rowc hH hr
  have hA := hE.1.2.2.2.1
  obtain ⟨-, k0, hk0, cm0, hkk0⟩ := hA n (fun b => .long (S0.2.2 j b))
  obtain ⟨-, k1, hk1, cm1, hkk1⟩ := hA n (fun b => .long (S0.2.2 r b))
  have hN : (nI n).toInt = (n : Int) := nI_toInt (by omega)
  have hz : (nI 0).toInt = 0 := by decide
  obtain ⟨vm', X', step⟩ := X.arraycopy S.1 S.2.2.2.1 (S.2.2.2.2 _ w_150) (S.2.2.2.2 _ w_151) (S.2.2.2.2 _ w_152) (S.2.2.2.2 _ w_153) (src := loc (10 + j)) (dst := loc (10 + r)) (cs := vp_cell (g.2 3) (n, .inr (.inl (S0.2.2 j)))) (cd := vp_cell (g.2 3) (n, .inr (.inl (S0.2.2 r)))) (srcPos := nI 0) (destPos := nI 0) (n := nI n) (by rw [hT]; exact hc0) (by rw [hT]; exact hc1)
    (fun _ h => by cases h) (fun _ h => by cases h) (fun h => by cases h) (fun h => by cases h) hk0 hk1 hkk0 hkk1 rfl (by decide) (by decide) (nI_pos (by omega))
    (by rw [hz, hN]; show ¬ _ > ((arrV _ n _).slots.size : Int); rw [arrV_size]; omega)
    (by rw [hz, hN]; show ¬ _ > ((arrV _ n _).slots.size : Int); rw [arrV_size]; omega)
    (fun vm₁ _ i hi => by
      rw [nI_clamp (by omega)] at hi
      have e : (vp_cell (g.2 3) (n, .inr (.inl (S0.2.2 j)))).slots.getD ((nI 0).toNatClampNeg + i) .null = .long (S0.2.2 j i) := by
        show (arrV (g.2 3) n (fun b => .long (S0.2.2 j b))).slots.getD _ _ = _
        rw [Array.getD_eq_getD_getElem?, arrV_read _ _ (by simpa [nI_clamp] using hi)]
        simp [nI_clamp]
      exact ⟨by rw [e]; rfl, by rw [e]; exact trivial⟩)
    (g := F0 m pc ls (.int (nI n) :: .int (nI 0) :: .ref (loc (10 + r)) :: .int (nI 0) :: .ref (loc (10 + j)) :: rest)) rfl (by rw [S.2.2.1]; exact hl) (rest := rest) rfl (by rw [S.2.1]; exact hdg) hR.1 (by show 2 * 0 + _ + _ ≤ _; have := hR.2; omega)
  have ec : copied (vp_cell (g.2 3) (n, .inr (.inl (S0.2.2 j)))) (vp_cell (g.2 3) (n, .inr (.inl (S0.2.2 r)))) (nI 0) (nI 0) (nI n) = vp_cell (g.2 3) (n, .inr (.inl (va_cpy (S0.2.2 j) (S0.2.2 r) (nI 0).toNatClampNeg (nI 0).toNatClampNeg (nI n).toNatClampNeg))) := va_copied (fun z => .long z) (g.2 3) (g.2 3) (S0.2.2 j) (S0.2.2 r) (by rw [nI_clamp (by omega), nI_clamp (by omega)]; omega)
  rw [ec] at X' step
  have hlt : loc (10 + r) < H.size := (Array.getElem?_eq_some_iff.mp hc1).1
  generalize hcell : vp_cell (g.2 3) (n, .inr (.inl (va_cpy (S0.2.2 j) (S0.2.2 r) (nI 0).toNatClampNeg (nI 0).toNatClampNeg (nI n).toNatClampNeg))) = cell at X' step
  have oq : ∀ q : Nat, q ≠ loc (10 + r) → (H.setIfInBounds (loc (10 + r)) cell)[q]? = H[q]? := fun q hq => by simp [Array.getElem?_setIfInBounds, Ne.symm hq]
  have hself : (H.setIfInBounds (loc (10 + r)) cell)[loc (10 + r)]? = some cell := by simp [Array.getElem?_setIfInBounds, hlt]
  have hZ : ∀ k, k < 21 → (H.setIfInBounds (loc (10 + r)) cell)[loc (k + 1)]? = some (arrV (clX0 g k) (lnX0 n k) (cX0 loc (cpF S0 r j).2.1 (cpF S0 r j).2.2 k)) := by
    intro k hk
    by_cases hkr : k = 9 + r
    · subst hkr
      rw [show 9 + r + 1 = 10 + r by omega, hself, ← hcell, show clX0 g (9 + r) = g.2 3 by unfold clX0; rw [if_neg (by omega), if_neg (by omega)], show lnX0 n (9 + r) = n by rw [Nat.add_comm]; rfl]
      show some (arrV (g.2 3) n (fun b => .long (va_cpy (S0.2.2 j) (S0.2.2 r) (nI 0).toNatClampNeg (nI 0).toNatClampNeg (nI n).toNatClampNeg b))) = _
      refine congrArg some (arrV_congr _ fun b hb => ?_)
      have e0 : (nI 0).toNatClampNeg = 0 := by decide
      rw [e0, nI_clamp (by omega), pk_cpy_in (by omega) (by omega)]
      simp only [cX0, cpF]
      rw [if_neg (by omega), if_neg (by omega), if_pos (by omega)]
      simp
    · rw [oq _ (fun e => hkr (by have := hE.2.2 (k + 1) (10 + r) (by omega) (by omega) e; omega)), hH.2 k hk]
      refine congrArg some (arrV_congr _ fun b hb => ?_)
      simp only [cX0, cpF]
      by_cases h8 : k < 8
      · rw [if_pos h8, if_pos h8]
      · rw [if_neg h8, if_neg h8]
        by_cases h9 : k = 8
        · rw [if_pos h9, if_pos h9]
        · rw [if_neg h9, if_neg h9, if_neg (by omega)]
  obtain ⟨t, a1, b1⟩ := kk (H.setIfInBounds (loc (10 + r)) cell) _ ⟨hE, ⟨hH.1.kept (oq _ fun e => absurd (hE.2.2 0 (10 + r) (by omega) (by omega) e) (by omega)), hZ⟩, ⟨by simp; exact hS.1, fun q g1 g2 => by
      rw [oq q (fun e => g2 (by rw [e]; exact ⟨10 + r, by omega, rfl⟩))]
      exact hS.2.1 q g1 g2, fun q hq => by
      rcases List.mem_append.mp hq with h | h
      · exact hS.2.2 q h
      · obtain ⟨z, -, hz⟩ := List.mem_map.mp h
        rw [← hz]
        exact ⟨10 + r, by omega, rfl⟩⟩⟩ _ (by rw [← hT]; rfl) X'
  exact ⟨t, step t a1, b1⟩
/-- Arrays.fill over one array of ints -/
def HF (a : Nat) (cI : ClassId) (N : Nat) (f : Nat → Int32) (H : Heap) : Prop := H[a]? = some (arrV cI N (fun j => .int (f j)))
def EF (cI : ClassId) (s : State) (_ : Heap) : Prop := ArrOfT s cI .int
def filF (f : Nat → Int32) (v : Int32) (k : Nat) : Nat → Int32 := fun j => if j < k then v else f j
end SP
set_option maxRecDepth 100000 in
set_option maxHeartbeats 4000000 in
theorem c_fill (l : Launch) {a N : Nat} {cI : ClassId} (hN : N < 2 ^ 31) {f : Nat → Int32} (v : Int32) : Met l yJ7_fill_53178 (wsM yJ7_fill_53178 cJ7_fill_53178 4 none) (rmL 1 0 0) (PcO (HF a cI N) (EF cI) f [.ref a, .int v]) (va_Qv (fun f' => f' = filF f v N) (fun f' t => HF a cI N f' t.heap) (fun q => q = a)) 0 0 (fun q => q = a) := by
  refine o_enter (by decide) (Nat.le_of_ble_eq_true rfl) ?_
  intro p e s m below meth c ls S hr hlocks hC hl
  refine lv_iconst (v := nI 0) S.1 S.2.1 dJ7_fill_53178_0 rfl ?_
  refine lv_istore_n S.1 S.2.1 dJ7_fill_53178_1 rfl hl (by decide) rfl (fun ls hl => ?_)
  refine lv_aload_n S.1 S.2.1 dJ7_fill_53178_2 rfl (lv_at hl 1 rfl) ?_
  refine W.alen (n := nI N) S.1 S.2.1 hC.2.1 (hC.1 _ _) (by rw [arrV_size]; rfl) rfl rfl dJ7_fill_53178_3 ?_
  refine lv_istore_n S.1 S.2.1 dJ7_fill_53178_4 rfl hl (by decide) rfl (fun ls hl => ?_)
  have loop : ∀ (k i : Nat), N - i < k → i ≤ N → ∀ (H : Heap) (locs : List Loc) (ls : Array Slot), Cn (fun q => q = a) (HF a cI N) (EF cI) (filF f v i) s H locs → lv_has ls 4 [(0, .ref a), (1, .int v), (2, .int (nI i)), (3, .int (nI N))] → W p l e (rmL 1 0 0) s m ([.ref a, .int v] : List Value).toArray below meth c H locs 0 0 (MQ below (va_Qv (fun f' => f' = filF f v N) (fun f' t => HF a cI N f' t.heap) (fun q => q = a)) ([.ref a, .int v] : List Value).toArray s 0 0 (fun q => q = a)) (F0 m 5 ls []) := by
    intro k
    induction k with
    | zero => intro i hk; omega
    | succ k ih =>
      intro i hk hi H locs ls hC hl
      refine lv_iload_n S.1 S.2.1 dJ7_fill_53178_5 rfl (lv_at hl 2 rfl) ?_
      refine lv_iload_n S.1 S.2.1 dJ7_fill_53178_6 rfl (lv_at hl 3 rfl) ?_
      refine n_icmp_ge (tgt := 20) S.1 S.2.1 dJ7_fill_53178_7 (by decide) (by omega) (by omega) (fun c7 => ?_) (fun c7 => ?_)
      · exact o_vret S hr hlocks hC (by rw [show N = i by omega]) dJ7_fill_53178_20 (Nat.le_of_ble_eq_true rfl) (Nat.le_of_ble_eq_true rfl)
      · refine lv_aload_n S.1 S.2.1 dJ7_fill_53178_10 rfl (lv_at hl 0 rfl) ?_
        refine lv_iload_n S.1 S.2.1 dJ7_fill_53178_11 rfl (lv_at hl 2 rfl) ?_
        refine lv_iload_n S.1 S.2.1 dJ7_fill_53178_12 rfl (lv_at hl 1 rfl) ?_
        refine W.iast S.1 S.2.1 hC.2.1 (hC.1 _ _) (fun q => by cases q) (z_in (i := 0) c7 hN) rfl rfl dJ7_fill_53178_13 fun H1 e1 z oq => ?_
        refine W.eq (g2 := F0 m 14 ls []) rfl ?_
        refine lv_iinc (k := 2) S.1 S.2.1 dJ7_fill_53178_14 hl rfl (n_inc _) (by decide) rfl (fun ls hl => ?_)
        refine lv_goto (tgt := 5) S.1 S.2.1 dJ7_fill_53178_17 (by decide) ?_
        refine ih (i + 1) (by omega) (by omega) _ _ _ ⟨hC.1, ?_, hC.2.2.put z oq rfl⟩ (lv_sub hl [1, 2, 0, 3] rfl)
        show H1[a]? = _
        rw [e1, nI_clamp (by omega), arrV_store]
        refine congrArg some (congrArg (arrV _ _) (funext fun b => ?_))
        by_cases hb : b = i
        · simp [updV, filF, hb]
        · by_cases hb2 : b < i
          · simp [updV, filF, hb, hb2, Nat.lt_succ_of_lt hb2]
          · simp [updV, filF, hb, hb2, show ¬ b < i + 1 by omega]
  exact loop (N + 1) 0 (by omega) (by omega) _ _ _ ⟨hC.1, by have := hC.2.1; exact this, hC.2.2⟩ (lv_sub hl [2, 3, 1, 0] rfl)
section SQ
variable {p : Program} {l : Launch} {e : Env} {R : Room} {s : State} {m : MethodId} {args : Array Value} {below : List Frame} {meth : Method} {c : Code} {H : Heap} {locs : List Loc} {cells slots : Nat} {Q : State → Prop}
variable {cc : ByteArray} {pc nL : Nat} {ls : Array Slot} {rest : List Value} {loc : Nat → Nat} {n : Nat} {g : Gc} {S0 : RS}
/-- the int array k holds v everywhere -/
def fillF (S : RS) (k : Nat) (v : Int32) : RS := (S.1, (fun q j => if q = k then v else S.2.1 q j), S.2.2)
theorem x_fill (S : CallFix p m c cc nL s args WA RX0) (hC : CX loc n g S0 s H locs) (hn : n ≤ 40) (k : Nat) (hk : k < 8) {v : Int32} (hl : ls.size = nL) (hW : (rest.map fun v => v.category).sum ≤ 8) (hR : 2 ≤ R.frames ∧ 63 ≤ R.locals ∧ cells ≤ R.cells ∧ slots ≤ R.slots) (hdg : decode cc pc = .ok (.invokestatic 65, 3))
    (kk : ∀ (H1 : Heap) (locs1 : List Loc), CX loc n g (fillF S0 k v) s H1 locs1 → W p l e R s m args below meth c H1 locs1 cells slots Q (F0 m (pc + 3) ls rest)) : W p l e R s m args below meth c H locs cells slots Q (F0 m pc ls (.int v :: .ref (loc (k + 1)) :: rest)) := by
  obtain ⟨hE, hH, hS⟩ := hC
  have hcell : HF (loc (k + 1)) (g.2 1) (lnX0 n k) (S0.2.1 k) H := by
    have := hH.2 k (by omega)
    rw [x_clI hk] at this
    rw [HF, this]
    exact congrArg some (congrArg (arrV _ _) (funext fun b => if_pos hk))
  refine va_callv (va_runS (As := [.ref (loc (k + 1)), .int v]) (rest := rest) S (c_fill l (a := loc (k + 1)) (cI := g.2 1) (lnX0_lt hn k) (f := S0.2.1 k) v) (va_cwS 2 S.2.2.2.2 (sw_good cw_RX0_J7_fill_53178) rfl rfl rfl cw_RX0_J7_fill_53178.2 ⟨hR.1, hR.2.1⟩) ⟨fun a U gg mk q => ⟨q.1, q.2.1, arrOfT_moved (Vm.Alike.refl U.vm) q.2.2⟩, fun U hU hW => ⟨rfl, by rw [hU]; exact hcell, arrOfT_moved hW.alike hE.1.2.1⟩⟩ rfl rfl hl rfl (lv_room hW) hdg ⟨hR.2.2.1, hR.2.2.2⟩) hS (fun q _ h => by rw [h]; exact ⟨k + 1, by omega, rfl⟩) (fun q h => by rw [h]; exact ⟨k + 1, by omega, rfl⟩) (fun u t H1 locs1 ht hvm hp hB hz hk1 hS1 => ?_)
  rw [Nat.add_zero, Nat.add_zero]
  have hlt : ∀ i, i < 22 → loc i < H.size := fun i hi => by
    rcases Nat.eq_zero_or_pos i with h0 | h0
    · subst h0
      obtain ⟨cell, q1, -⟩ := hH.1
      exact (Array.getElem?_eq_some_iff.mp q1).1
    · have q1 := hH.2 (i - 1) (by omega)
      rw [show i - 1 + 1 = i by omega] at q1
      exact (Array.getElem?_eq_some_iff.mp q1).1
  refine kk H1 locs1 ⟨hE, ⟨hH.1.kept (hk1 _ (hlt 0 (by omega)) (fun e => absurd (hE.2.2 0 (k + 1) (by omega) (by omega) e) (by omega))), fun i hi => ?_⟩, hS1⟩
  by_cases hik : i = k
  · subst hik
    have hB : HF (loc (i + 1)) (g.2 1) (lnX0 n i) u t.heap := hB
    rw [HF, ht] at hB
    rw [hB, hp, x_clI hk]
    refine congrArg some (arrV_congr _ fun b hb => ?_)
    simp [filF, hb, cX0, fillF, hk]
  · rw [hk1 _ (hlt (i + 1) (by omega)) (fun e => hik (by have := hE.2.2 (i + 1) (k + 1) (by omega) (by omega) e; omega)), hH.2 i hi]
    refine congrArg some (congrArg (arrV _ _) (funext fun b => ?_))
    simp [cX0, fillF, hik]
end SQ
end
section
def pOk (S : RS) : Prop := ∃ q, q ≤ 2 ∧ S.1 2 = nI q
theorem pushPF_ok {S : RS} (h : pOk S) (n r a b : Nat) : pOk (pushPF S n r a b) := by
  obtain ⟨q, hq, e⟩ := h
  unfold pushPF
  split
  · exact ⟨q, hq, by rw [(partF_1 S n r a b).1, e]⟩
  · rename_i hlt
    rw [e] at hlt
    have : q < 2 := Nat.not_le.mp fun h => hlt ((nI_leI (by omega) (by omega)).mpr h)
    refine ⟨q + 1, by omega, ?_⟩
    rw [e, ixN_nI (by omega)]
    rfl
def pushRF (S : RS) (n r a : Nat) : Nat → RS
  | 0 => S
  | k + 1 => if hX (pushRF S n r a k) r a k then pushPF (pushRF S n r a k) n r a k else pushRF S n r a k
def pushCF (S : RS) (n r b : Nat) : Nat → RS
  | 0 => S
  | k + 1 => if hX (pushCF S n r b k) r k b then pushPF (pushCF S n r b k) n r k b else pushCF S n r b k
theorem pushRF_ok {S : RS} (h : pOk S) (n r a : Nat) : ∀ k, pOk (pushRF S n r a k)
  | 0 => h
  | k + 1 => by
    unfold pushRF
    split
    · exact pushPF_ok (pushRF_ok h n r a k) _ _ _ _
    · exact pushRF_ok h n r a k
theorem pushCF_ok {S : RS} (h : pOk S) (n r b : Nat) : ∀ k, pOk (pushCF S n r b k)
  | 0 => h
  | k + 1 => by
    unfold pushCF
    split
    · exact pushPF_ok (pushCF_ok h n r b k) _ _ _ _
    · exact pushCF_ok h n r b k
set_option maxRecDepth 100000 in
set_option maxHeartbeats 4000000 in
theorem c_X0_pushRow (l : Launch) {loc : Nat → Nat} {n : Nat} {g : Gc} (hn : n ≤ 40) {S0 : RS} {r a : Nat} (hr12 : r < 12) (ha : a < n) (hp0 : pOk S0) : MXv l yX0_pushRow cX0_pushRow 4 none (rmL 5 0 0) loc n g S0 [.int (nI r), .int (nI a)] (fun S' => S' = pushRF S0 n r a n) := by
  refine o_enter (by decide) (Nat.le_of_ble_eq_true rfl) ?_
  intro p e s m below meth c ls S hr hlocks hC hl
  refine lv_iconst (v := nI 0) S.1 S.2.1 dX0_pushRow_0 rfl ?_
  refine lv_istore_n S.1 S.2.1 dX0_pushRow_1 rfl hl (by decide) rfl (fun ls hl => ?_)
  have loop : ∀ (k i : Nat), n - i < k → i ≤ n → ∀ (H : Heap) (locs : List Loc) (ls : Array Slot), CX loc n g (pushRF S0 n r a i) s H locs → lv_has ls 4 [(0, .ref (loc 0)), (1, .int (nI r)), (2, .int (nI a)), (3, .int (nI i))] → W p l e (rmL 5 0 0) s m ([.ref (loc 0), .int (nI r), .int (nI a)] : List Value).toArray below meth c H locs 0 0 (MQ below (va_Qv (fun S' => S' = pushRF S0 n r a n) (fun S' t => HX loc n g S' t.heap) (ZA loc 21)) ([.ref (loc 0), .int (nI r), .int (nI a)] : List Value).toArray s (rmL 5 0 0).cells (rmL 5 0 0).slots (ZA loc 21)) (F0 m 2 ls []) := by
    intro k
    induction k with
    | zero => intro i hk; omega
    | succ k ih =>
      intro i hk hi  H locs ls hC hl
      obtain ⟨q, hq, eq⟩ := pushRF_ok hp0 n r a i
      refine lv_iload_n S.1 S.2.1 dX0_pushRow_2 rfl (lv_at hl 3 rfl) ?_
      refine lv_aload_n S.1 S.2.1 dX0_pushRow_3 rfl (lv_at hl 0 rfl) ?_
      refine x_get_things S hC dX0_pushRow_4 ?_
      refine n_icmp_ge (tgt := 33) S.1 S.2.1 dX0_pushRow_7 (by decide) (by omega) (by omega) (fun c7 => ?_) (fun c7 => ?_)
      · skip
        exact o_vret S hr hlocks hC (by rw [show n = i by omega]) dX0_pushRow_33 (Nat.le_of_ble_eq_true rfl) (Nat.le_of_ble_eq_true rfl)
      · skip
        refine lv_aload_n S.1 S.2.1 dX0_pushRow_10 rfl (lv_at hl 0 rfl) ?_
        refine lv_iload_n S.1 S.2.1 dX0_pushRow_11 rfl (lv_at hl 1 rfl) ?_
        refine lv_iload_n S.1 S.2.1 dX0_pushRow_12 rfl (lv_at hl 2 rfl) ?_
        refine lv_iload_n S.1 S.2.1 dX0_pushRow_13 rfl (lv_at hl 3 rfl) ?_
        refine o_calli oiX S hC (c_X0_holds l hn hr12 ha (b := i) (by omega)) cw_RX0_X0_holds ⟨rfl, rfl, by decide, by decide⟩ rfl hl.1 rfl (Nat.le_of_ble_eq_true rfl) dX0_pushRow_14 ⟨(Nat.le_of_ble_eq_true rfl), (Nat.le_of_ble_eq_true rfl)⟩ (fun r14 S1 H locs hp hC1 => ?_)
        obtain ⟨e1, hp⟩ := hp
        rw [e1] at hC1; replace hC := hC1
        subst hp
        refine b_if_eq (tgt := 27) S.1 S.2.1 dX0_pushRow_17 (by decide) (fun c17 => ?_) (fun c17 => ?_)
        · skip
          refine lv_iinc (k := 3) S.1 S.2.1 dX0_pushRow_27 hl rfl (n_inc _) (by decide) rfl (fun ls hl => ?_)
          refine lv_goto (tgt := 2) S.1 S.2.1 dX0_pushRow_30 (by decide) ?_
          exact ih (i + 1) (by omega) (by omega) _ _ _ (by rw [pushRF, if_neg (by simp [c17])]; exact hC) (lv_sub hl [1, 2, 3, 0] rfl)
        · skip
          refine lv_aload_n S.1 S.2.1 dX0_pushRow_20 rfl (lv_at hl 0 rfl) ?_
          refine lv_iload_n S.1 S.2.1 dX0_pushRow_21 rfl (lv_at hl 1 rfl) ?_
          refine lv_iload_n S.1 S.2.1 dX0_pushRow_22 rfl (lv_at hl 2 rfl) ?_
          refine lv_iload_n S.1 S.2.1 dX0_pushRow_23 rfl (lv_at hl 3 rfl) ?_
          refine o_callv oiX S hC (c_X0_pushPair l hn hr12 ha (b := i) (by omega) hq eq) cw_RX0_X0_pushPair ⟨rfl, rfl, by decide, by decide⟩ rfl hl.1 rfl (Nat.le_of_ble_eq_true rfl) dX0_pushRow_24 ⟨(Nat.le_of_ble_eq_true rfl), (Nat.le_of_ble_eq_true rfl)⟩ (fun S1 H locs hp hC1 => ?_)
          have e1 := hp
          rw [e1] at hC1; replace hC := hC1
          refine lv_iinc (k := 3) S.1 S.2.1 dX0_pushRow_27 hl rfl (n_inc _) (by decide) rfl (fun ls hl => ?_)
          refine lv_goto (tgt := 2) S.1 S.2.1 dX0_pushRow_30 (by decide) ?_
          exact ih (i + 1) (by omega) (by omega) _ _ _ (by rw [pushRF, if_pos c17]; exact hC) (lv_sub hl [1, 2, 3, 0] rfl)
  exact loop (n + 1) 0 (by omega) (by omega) _ _ _ hC (lv_sub hl [1, 2, 3, 0] rfl)
set_option maxRecDepth 100000 in
set_option maxHeartbeats 4000000 in
theorem c_X0_pushColumn (l : Launch) {loc : Nat → Nat} {n : Nat} {g : Gc} (hn : n ≤ 40) {S0 : RS} {r b : Nat} (hr12 : r < 12) (hb : b < n) (hp0 : pOk S0) : MXv l yX0_pushColumn cX0_pushColumn 4 none (rmL 5 0 0) loc n g S0 [.int (nI r), .int (nI b)] (fun S' => S' = pushCF S0 n r b n) := by
  refine o_enter (by decide) (Nat.le_of_ble_eq_true rfl) ?_
  intro p e s m below meth c ls S hr hlocks hC hl
  refine lv_iconst (v := nI 0) S.1 S.2.1 dX0_pushColumn_0 rfl ?_
  refine lv_istore_n S.1 S.2.1 dX0_pushColumn_1 rfl hl (by decide) rfl (fun ls hl => ?_)
  have loop : ∀ (k i : Nat), n - i < k → i ≤ n → ∀ (H : Heap) (locs : List Loc) (ls : Array Slot), CX loc n g (pushCF S0 n r b i) s H locs → lv_has ls 4 [(0, .ref (loc 0)), (1, .int (nI r)), (2, .int (nI b)), (3, .int (nI i))] → W p l e (rmL 5 0 0) s m ([.ref (loc 0), .int (nI r), .int (nI b)] : List Value).toArray below meth c H locs 0 0 (MQ below (va_Qv (fun S' => S' = pushCF S0 n r b n) (fun S' t => HX loc n g S' t.heap) (ZA loc 21)) ([.ref (loc 0), .int (nI r), .int (nI b)] : List Value).toArray s (rmL 5 0 0).cells (rmL 5 0 0).slots (ZA loc 21)) (F0 m 2 ls []) := by
    intro k
    induction k with
    | zero => intro i hk; omega
    | succ k ih =>
      intro i hk hi  H locs ls hC hl
      obtain ⟨q, hq, eq⟩ := pushCF_ok hp0 n r b i
      refine lv_iload_n S.1 S.2.1 dX0_pushColumn_2 rfl (lv_at hl 3 rfl) ?_
      refine lv_aload_n S.1 S.2.1 dX0_pushColumn_3 rfl (lv_at hl 0 rfl) ?_
      refine x_get_things S hC dX0_pushColumn_4 ?_
      refine n_icmp_ge (tgt := 33) S.1 S.2.1 dX0_pushColumn_7 (by decide) (by omega) (by omega) (fun c7 => ?_) (fun c7 => ?_)
      · skip
        exact o_vret S hr hlocks hC (by rw [show n = i by omega]) dX0_pushColumn_33 (Nat.le_of_ble_eq_true rfl) (Nat.le_of_ble_eq_true rfl)
      · skip
        refine lv_aload_n S.1 S.2.1 dX0_pushColumn_10 rfl (lv_at hl 0 rfl) ?_
        refine lv_iload_n S.1 S.2.1 dX0_pushColumn_11 rfl (lv_at hl 1 rfl) ?_
        refine lv_iload_n S.1 S.2.1 dX0_pushColumn_12 rfl (lv_at hl 3 rfl) ?_
        refine lv_iload_n S.1 S.2.1 dX0_pushColumn_13 rfl (lv_at hl 2 rfl) ?_
        refine o_calli oiX S hC (c_X0_holds l hn hr12 (a := i) (by omega) hb) cw_RX0_X0_holds ⟨rfl, rfl, by decide, by decide⟩ rfl hl.1 rfl (Nat.le_of_ble_eq_true rfl) dX0_pushColumn_14 ⟨(Nat.le_of_ble_eq_true rfl), (Nat.le_of_ble_eq_true rfl)⟩ (fun r14 S1 H locs hp hC1 => ?_)
        obtain ⟨e1, hp⟩ := hp
        rw [e1] at hC1; replace hC := hC1
        subst hp
        refine b_if_eq (tgt := 27) S.1 S.2.1 dX0_pushColumn_17 (by decide) (fun c17 => ?_) (fun c17 => ?_)
        · skip
          refine lv_iinc (k := 3) S.1 S.2.1 dX0_pushColumn_27 hl rfl (n_inc _) (by decide) rfl (fun ls hl => ?_)
          refine lv_goto (tgt := 2) S.1 S.2.1 dX0_pushColumn_30 (by decide) ?_
          exact ih (i + 1) (by omega) (by omega) _ _ _ (by rw [pushCF, if_neg (by simp [c17])]; exact hC) (lv_sub hl [1, 2, 3, 0] rfl)
        · skip
          refine lv_aload_n S.1 S.2.1 dX0_pushColumn_20 rfl (lv_at hl 0 rfl) ?_
          refine lv_iload_n S.1 S.2.1 dX0_pushColumn_21 rfl (lv_at hl 1 rfl) ?_
          refine lv_iload_n S.1 S.2.1 dX0_pushColumn_22 rfl (lv_at hl 3 rfl) ?_
          refine lv_iload_n S.1 S.2.1 dX0_pushColumn_23 rfl (lv_at hl 2 rfl) ?_
          refine o_callv oiX S hC (c_X0_pushPair l hn hr12 (a := i) (by omega) hb hq eq) cw_RX0_X0_pushPair ⟨rfl, rfl, by decide, by decide⟩ rfl hl.1 rfl (Nat.le_of_ble_eq_true rfl) dX0_pushColumn_24 ⟨(Nat.le_of_ble_eq_true rfl), (Nat.le_of_ble_eq_true rfl)⟩ (fun S1 H locs hp hC1 => ?_)
          have e1 := hp
          rw [e1] at hC1; replace hC := hC1
          refine lv_iinc (k := 3) S.1 S.2.1 dX0_pushColumn_27 hl rfl (n_inc _) (by decide) rfl (fun ls hl => ?_)
          refine lv_goto (tgt := 2) S.1 S.2.1 dX0_pushColumn_30 (by decide) ?_
          exact ih (i + 1) (by omega) (by omega) _ _ _ (by rw [pushCF, if_pos c17]; exact hC) (lv_sub hl [1, 2, 3, 0] rfl)
  exact loop (n + 1) 0 (by omega) (by omega) _ _ _ hC (lv_sub hl [1, 2, 3, 0] rfl)
def pushOF (S : RS) (n r a b : Nat) : RS :=
  if S.2.1 2 r = nI 0 then pushCF (pushRF S n r a n) n r b n else if S.2.1 2 r = nI 1 then pushCF S n r b n else if S.2.1 2 r = nI 2 then pushRF S n r a n
  else if S.2.1 2 r = nI 4 then pushRF (pushRF S n r a n) n r b n else S
set_option maxRecDepth 100000 in
set_option maxHeartbeats 4000000 in
theorem c_X0_pushOut (l : Launch) {loc : Nat → Nat} {n : Nat} {g : Gc} (hn : n ≤ 40) {S0 : RS} {r a b : Nat} (hr12 : r < 12) (ha : a < n) (hb : b < n) (hp0 : pOk S0) : MXv l yX0_pushOut cX0_pushOut 4 none (rmL 6 0 0) loc n g S0 [.int (nI r), .int (nI a), .int (nI b)] (fun S' => S' = pushOF S0 n r a b) := by
  refine o_enter (by decide) (Nat.le_of_ble_eq_true rfl) ?_
  intro p e s m below meth c ls S hr hlocks hC hl
  refine lv_aload_n S.1 S.2.1 dX0_pushOut_0 rfl (lv_at hl 0 rfl) ?_
  refine x_get_forms S hC dX0_pushOut_1 ?_
  refine lv_iload_n S.1 S.2.1 dX0_pushOut_4 rfl (lv_at hl 1 rfl) ?_
  refine x_ild S hC hn 2 (by decide) hr12 dX0_pushOut_5 ?_
  have hsw6 := trivial
  by_cases h6_0 : S0.2.1 2 r = nI 0
  · refine lv_tableIn (off := 34) (tgt := 40) S.1 S.2.1 dX0_pushOut_6 (by rw [h6_0]; decide) (by rw [h6_0]; decide) (by rw [h6_0]; rfl) (by decide) ?_
    refine lv_aload_n S.1 S.2.1 dX0_pushOut_40 rfl (lv_at hl 0 rfl) ?_
    refine lv_iload_n S.1 S.2.1 dX0_pushOut_41 rfl (lv_at hl 1 rfl) ?_
    refine lv_iload_n S.1 S.2.1 dX0_pushOut_42 rfl (lv_at hl 2 rfl) ?_
    refine o_callv oiX S hC (c_X0_pushRow l hn hr12 ha hp0) cw_RX0_X0_pushRow ⟨rfl, rfl, by decide, by decide⟩ rfl hl.1 rfl (Nat.le_of_ble_eq_true rfl) dX0_pushOut_43 ⟨(Nat.le_of_ble_eq_true rfl), (Nat.le_of_ble_eq_true rfl)⟩ (fun S1 H locs hp hC1 => ?_)
    have e1 := hp
    rw [e1] at hC1; replace hC := hC1
    refine lv_aload_n S.1 S.2.1 dX0_pushOut_46 rfl (lv_at hl 0 rfl) ?_
    refine lv_iload_n S.1 S.2.1 dX0_pushOut_47 rfl (lv_at hl 1 rfl) ?_
    refine lv_iload_n S.1 S.2.1 dX0_pushOut_48 rfl (lv_at hl 3 rfl) ?_
    refine o_callv oiX S hC (c_X0_pushColumn l hn hr12 hb (pushRF_ok hp0 n r a n)) cw_RX0_X0_pushColumn ⟨rfl, rfl, by decide, by decide⟩ rfl hl.1 rfl (Nat.le_of_ble_eq_true rfl) dX0_pushOut_49 ⟨(Nat.le_of_ble_eq_true rfl), (Nat.le_of_ble_eq_true rfl)⟩ (fun S1 H locs hp hC1 => ?_)
    have e1 := hp
    rw [e1] at hC1; replace hC := hC1
    refine lv_goto (tgt := 88) S.1 S.2.1 dX0_pushOut_52 (by decide) ?_
    exact o_vret S hr hlocks hC (by rw [pushOF, if_pos h6_0]) dX0_pushOut_88 (Nat.le_of_ble_eq_true rfl) (Nat.le_of_ble_eq_true rfl)
  · skip
    by_cases h6_1 : S0.2.1 2 r = nI 1
    · refine lv_tableIn (off := 49) (tgt := 55) S.1 S.2.1 dX0_pushOut_6 (by rw [h6_1]; decide) (by rw [h6_1]; decide) (by rw [h6_1]; rfl) (by decide) ?_
      refine lv_aload_n S.1 S.2.1 dX0_pushOut_55 rfl (lv_at hl 0 rfl) ?_
      refine lv_iload_n S.1 S.2.1 dX0_pushOut_56 rfl (lv_at hl 1 rfl) ?_
      refine lv_iload_n S.1 S.2.1 dX0_pushOut_57 rfl (lv_at hl 3 rfl) ?_
      refine o_callv oiX S hC (c_X0_pushColumn l hn hr12 hb hp0) cw_RX0_X0_pushColumn ⟨rfl, rfl, by decide, by decide⟩ rfl hl.1 rfl (Nat.le_of_ble_eq_true rfl) dX0_pushOut_58 ⟨(Nat.le_of_ble_eq_true rfl), (Nat.le_of_ble_eq_true rfl)⟩ (fun S1 H locs hp hC1 => ?_)
      have e1 := hp
      rw [e1] at hC1; replace hC := hC1
      refine lv_goto (tgt := 88) S.1 S.2.1 dX0_pushOut_61 (by decide) ?_
      exact o_vret S hr hlocks hC (by rw [pushOF, if_neg h6_0, if_pos h6_1]) dX0_pushOut_88 (Nat.le_of_ble_eq_true rfl) (Nat.le_of_ble_eq_true rfl)
    · skip
      by_cases h6_2 : S0.2.1 2 r = nI 2
      · refine lv_tableIn (off := 58) (tgt := 64) S.1 S.2.1 dX0_pushOut_6 (by rw [h6_2]; decide) (by rw [h6_2]; decide) (by rw [h6_2]; rfl) (by decide) ?_
        refine lv_aload_n S.1 S.2.1 dX0_pushOut_64 rfl (lv_at hl 0 rfl) ?_
        refine lv_iload_n S.1 S.2.1 dX0_pushOut_65 rfl (lv_at hl 1 rfl) ?_
        refine lv_iload_n S.1 S.2.1 dX0_pushOut_66 rfl (lv_at hl 2 rfl) ?_
        refine o_callv oiX S hC (c_X0_pushRow l hn hr12 ha hp0) cw_RX0_X0_pushRow ⟨rfl, rfl, by decide, by decide⟩ rfl hl.1 rfl (Nat.le_of_ble_eq_true rfl) dX0_pushOut_67 ⟨(Nat.le_of_ble_eq_true rfl), (Nat.le_of_ble_eq_true rfl)⟩ (fun S1 H locs hp hC1 => ?_)
        have e1 := hp
        rw [e1] at hC1; replace hC := hC1
        refine lv_goto (tgt := 88) S.1 S.2.1 dX0_pushOut_70 (by decide) ?_
        exact o_vret S hr hlocks hC (by rw [pushOF, if_neg h6_0, if_neg h6_1, if_pos h6_2]) dX0_pushOut_88 (Nat.le_of_ble_eq_true rfl) (Nat.le_of_ble_eq_true rfl)
      · skip
        by_cases h6_3 : S0.2.1 2 r = nI 3
        · refine lv_tableIn (off := 82) (tgt := 88) S.1 S.2.1 dX0_pushOut_6 (by rw [h6_3]; decide) (by rw [h6_3]; decide) (by rw [h6_3]; rfl) (by decide) ?_
          exact o_vret S hr hlocks hC (by rw [pushOF, if_neg h6_0, if_neg h6_1, if_neg h6_2, if_neg (by rw [h6_3]; decide)]) dX0_pushOut_88 (Nat.le_of_ble_eq_true rfl) (Nat.le_of_ble_eq_true rfl)
        · skip
          by_cases h6_4 : S0.2.1 2 r = nI 4
          · refine lv_tableIn (off := 67) (tgt := 73) S.1 S.2.1 dX0_pushOut_6 (by rw [h6_4]; decide) (by rw [h6_4]; decide) (by rw [h6_4]; rfl) (by decide) ?_
            refine lv_aload_n S.1 S.2.1 dX0_pushOut_73 rfl (lv_at hl 0 rfl) ?_
            refine lv_iload_n S.1 S.2.1 dX0_pushOut_74 rfl (lv_at hl 1 rfl) ?_
            refine lv_iload_n S.1 S.2.1 dX0_pushOut_75 rfl (lv_at hl 2 rfl) ?_
            refine o_callv oiX S hC (c_X0_pushRow l hn hr12 ha hp0) cw_RX0_X0_pushRow ⟨rfl, rfl, by decide, by decide⟩ rfl hl.1 rfl (Nat.le_of_ble_eq_true rfl) dX0_pushOut_76 ⟨(Nat.le_of_ble_eq_true rfl), (Nat.le_of_ble_eq_true rfl)⟩ (fun S1 H locs hp hC1 => ?_)
            have e1 := hp
            rw [e1] at hC1; replace hC := hC1
            refine lv_aload_n S.1 S.2.1 dX0_pushOut_79 rfl (lv_at hl 0 rfl) ?_
            refine lv_iload_n S.1 S.2.1 dX0_pushOut_80 rfl (lv_at hl 1 rfl) ?_
            refine lv_iload_n S.1 S.2.1 dX0_pushOut_81 rfl (lv_at hl 3 rfl) ?_
            refine o_callv oiX S hC (c_X0_pushRow l hn hr12 hb (pushRF_ok hp0 n r a n)) cw_RX0_X0_pushRow ⟨rfl, rfl, by decide, by decide⟩ rfl hl.1 rfl (Nat.le_of_ble_eq_true rfl) dX0_pushOut_82 ⟨(Nat.le_of_ble_eq_true rfl), (Nat.le_of_ble_eq_true rfl)⟩ (fun S1 H locs hp hC1 => ?_)
            have e1 := hp
            rw [e1] at hC1; replace hC := hC1
            refine lv_goto (tgt := 88) S.1 S.2.1 dX0_pushOut_85 (by decide) ?_
            exact o_vret S hr hlocks hC (by rw [pushOF, if_neg h6_0, if_neg h6_1, if_neg h6_2, if_pos h6_4]) dX0_pushOut_88 (Nat.le_of_ble_eq_true rfl) (Nat.le_of_ble_eq_true rfl)
          · skip
            refine lv_tableOut (tgt := 88) S.1 S.2.1 dX0_pushOut_6 (tsw_out 4 (fun j hj => by rcases (show j = 0 ∨ j = 1 ∨ j = 2 ∨ j = 3 ∨ j = 4 by omega) with rfl | rfl | rfl | rfl | rfl <;> assumption)) (by decide) ?_
            exact o_vret S hr hlocks hC (by rw [pushOF, if_neg h6_0, if_neg h6_1, if_neg h6_2, if_neg h6_4]) dX0_pushOut_88 (Nat.le_of_ble_eq_true rfl) (Nat.le_of_ble_eq_true rfl)
def thrF (S : RS) (r s a : Nat) : Nat → Int64
  | 0 => 0
  | k + 1 => if hX S r a k then thrF S r s a k ||| S.2.2 s k else thrF S r s a k
set_option maxRecDepth 100000 in
set_option maxHeartbeats 4000000 in
theorem c_X0_rowThrough (l : Launch) {loc : Nat → Nat} {n : Nat} {g : Gc} (hn : n ≤ 40) {S0 : RS} {r t a : Nat} (hr12 : r < 12) (ht12 : t < 12) (ha : a < n) : MXl l yX0_rowThrough cX0_rowThrough 7 (some .long) (rmL 3 0 0) loc n g S0 [.int (nI r), .int (nI t), .int (nI a)] (fun v S' => S' = S0 ∧ v = thrF S0 r t a n) := by
  refine o_enter (by decide) (Nat.le_of_ble_eq_true rfl) ?_
  intro p e s m below meth c ls S hr hlocks hC hl
  refine lv_lconst (v := 0) S.1 S.2.1 dX0_rowThrough_0 rfl ?_
  refine lv_lstore S.1 S.2.1 dX0_rowThrough_1 hl (by decide) rfl (fun ls hl => ?_)
  refine lv_iconst (v := nI 0) S.1 S.2.1 dX0_rowThrough_3 rfl ?_
  refine lv_istore S.1 S.2.1 dX0_rowThrough_4 hl (by decide) rfl (fun ls hl => ?_)
  have loop : ∀ (k i : Nat), n - i < k → i ≤ n → ∀ (H : Heap) (locs : List Loc) (ls : Array Slot), CX loc n g (S0) s H locs → lv_has ls 7 [(0, .ref (loc 0)), (1, .int (nI r)), (2, .int (nI t)), (3, .int (nI a)), (4, .long (thrF S0 r t a i)), (6, .int (nI i))] → W p l e (rmL 3 0 0) s m ([.ref (loc 0), .int (nI r), .int (nI t), .int (nI a)] : List Value).toArray below meth c H locs 0 0 (MQ below (va_Ql (fun v S' => S' = S0 ∧ v = thrF S0 r t a n) (fun S' t => HX loc n g S' t.heap) (ZA loc 21)) ([.ref (loc 0), .int (nI r), .int (nI t), .int (nI a)] : List Value).toArray s (rmL 3 0 0).cells (rmL 3 0 0).slots (ZA loc 21)) (F0 m 6 ls []) := by
    intro k
    induction k with
    | zero => intro i hk; omega
    | succ k ih =>
      intro i hk hi  H locs ls hC hl
      refine lv_iload S.1 S.2.1 dX0_rowThrough_6 (lv_at hl 5 rfl) ?_
      refine lv_aload_n S.1 S.2.1 dX0_rowThrough_8 rfl (lv_at hl 0 rfl) ?_
      refine x_get_things S hC dX0_rowThrough_9 ?_
      refine n_icmp_ge (tgt := 46) S.1 S.2.1 dX0_rowThrough_12 (by decide) (by omega) (by omega) (fun c12 => ?_) (fun c12 => ?_)
      · skip
        refine lv_lload S.1 S.2.1 dX0_rowThrough_46 (lv_at hl 4 rfl) ?_
        exact o_lret S hr hlocks hC ⟨rfl, by rw [show n = i by omega]⟩ dX0_rowThrough_48 (Nat.le_of_ble_eq_true rfl) (Nat.le_of_ble_eq_true rfl)
      · skip
        refine lv_aload_n S.1 S.2.1 dX0_rowThrough_15 rfl (lv_at hl 0 rfl) ?_
        refine lv_iload_n S.1 S.2.1 dX0_rowThrough_16 rfl (lv_at hl 1 rfl) ?_
        refine lv_iload_n S.1 S.2.1 dX0_rowThrough_17 rfl (lv_at hl 3 rfl) ?_
        refine lv_iload S.1 S.2.1 dX0_rowThrough_18 (lv_at hl 5 rfl) ?_
        refine o_calli oiX S hC (c_X0_holds l hn hr12 ha (b := i) (by omega)) cw_RX0_X0_holds ⟨rfl, rfl, by decide, by decide⟩ rfl hl.1 rfl (Nat.le_of_ble_eq_true rfl) dX0_rowThrough_20 ⟨(Nat.le_of_ble_eq_true rfl), (Nat.le_of_ble_eq_true rfl)⟩ (fun r20 S1 H locs hp hC1 => ?_)
        obtain ⟨e1, hp⟩ := hp
        rw [e1] at hC1; replace hC := hC1
        subst hp
        refine b_if_eq (tgt := 40) S.1 S.2.1 dX0_rowThrough_23 (by decide) (fun c23 => ?_) (fun c23 => ?_)
        · skip
          refine lv_iinc (k := 5) S.1 S.2.1 dX0_rowThrough_40 hl rfl (n_inc _) (by decide) rfl (fun ls hl => ?_)
          refine lv_goto (tgt := 6) S.1 S.2.1 dX0_rowThrough_43 (by decide) ?_
          exact ih (i + 1) (by omega) (by omega) _ _ _ hC (by rw [thrF, if_neg (by simp [c23])]; exact lv_sub hl [1, 2, 3, 4, 5, 0] rfl)
        · skip
          refine lv_lload S.1 S.2.1 dX0_rowThrough_26 (lv_at hl 4 rfl) ?_
          refine lv_aload_n S.1 S.2.1 dX0_rowThrough_28 rfl (lv_at hl 0 rfl) ?_
          refine x_get_rows S hC dX0_rowThrough_29 ?_
          refine lv_iload_n S.1 S.2.1 dX0_rowThrough_32 rfl (lv_at hl 2 rfl) ?_
          refine x_aald S hC ht12 dX0_rowThrough_33 ?_
          refine lv_iload S.1 S.2.1 dX0_rowThrough_34 (lv_at hl 5 rfl) ?_
          refine x_lld S hC hn ht12 (show i < n by omega) dX0_rowThrough_36 ?_
          refine lv_lor S.1 S.2.1 dX0_rowThrough_37 ?_
          refine lv_lstore S.1 S.2.1 dX0_rowThrough_38 hl (by decide) rfl (fun ls hl => ?_)
          refine lv_iinc (k := 5) S.1 S.2.1 dX0_rowThrough_40 hl rfl (n_inc _) (by decide) rfl (fun ls hl => ?_)
          refine lv_goto (tgt := 6) S.1 S.2.1 dX0_rowThrough_43 (by decide) ?_
          exact ih (i + 1) (by omega) (by omega) _ _ _ hC (by rw [thrF, if_pos c23]; exact lv_sub hl [2, 3, 4, 5, 1, 0] rfl)
  exact loop (n + 1) 0 (by omega) (by omega) _ _ _ hC (lv_sub hl [2, 3, 4, 5, 1, 0] rfl)
def rowF (S : RS) (n : Nat) (c0 : Int32) (r t a : Nat) : Int64 :=
  if c0 = nI 0 then colF S r a n else if c0 = nI 1 then (S.2.2 r a ^^^ (-1)) &&& allL n else if c0 = nI 2 then S.2.2 r a &&& S.2.2 t a
  else if c0 = nI 3 then S.2.2 r a ||| S.2.2 t a else thrF S r t a n
set_option maxRecDepth 100000 in
set_option maxHeartbeats 4000000 in
theorem c_X0_rowBy (l : Launch) {loc : Nat → Nat} {n : Nat} {g : Gc} (hn : n ≤ 40) {S0 : RS} (c0 : Int32) {r a : Nat} {t0 : Int32} (hr12 : r < 12) (ht0 : ¬ c0 = nI 0 → ¬ c0 = nI 1 → ∃ t, t < 12 ∧ t0 = nI t) (ha : a < n) : MXl l yX0_rowBy cX0_rowBy 5 (some .long) (rmL 4 0 0) loc n g S0 [.int c0, .int (nI r), .int t0, .int (nI a)] (fun v S' => S' = S0 ∧ v = rowF S0 n c0 r (ixN t0) a) := by
  refine o_enter (by decide) (Nat.le_of_ble_eq_true rfl) ?_
  intro p e s m below meth c ls S hr hlocks hC hl
  refine lv_iload_n S.1 S.2.1 dX0_rowBy_0 rfl (lv_at hl 1 rfl) ?_
  have hsw1 := trivial
  by_cases h1_0 : c0 = nI 0
  · refine lv_tableIn (off := 31) (tgt := 32) S.1 S.2.1 dX0_rowBy_1 (by rw [h1_0]; decide) (by rw [h1_0]; decide) (by rw [h1_0]; rfl) (by decide) ?_
    refine lv_aload_n S.1 S.2.1 dX0_rowBy_32 rfl (lv_at hl 0 rfl) ?_
    refine lv_iload_n S.1 S.2.1 dX0_rowBy_33 rfl (lv_at hl 2 rfl) ?_
    refine lv_iload S.1 S.2.1 dX0_rowBy_34 (lv_at hl 4 rfl) ?_
    refine o_calll oiX S hC (c_X0_column l hn hr12 ha) cw_RX0_X0_column ⟨rfl, rfl, by decide, by decide⟩ rfl hl.1 rfl (Nat.le_of_ble_eq_true rfl) dX0_rowBy_36 ⟨(Nat.le_of_ble_eq_true rfl), (Nat.le_of_ble_eq_true rfl)⟩ (fun r36 S1 H locs hp hC1 => ?_)
    obtain ⟨e1, hp⟩ := hp
    rw [e1] at hC1; replace hC := hC1
    subst hp
    exact o_lret S hr hlocks hC ⟨rfl, by rw [rowF, if_pos h1_0]⟩ dX0_rowBy_39 (Nat.le_of_ble_eq_true rfl) (Nat.le_of_ble_eq_true rfl)
  · skip
    by_cases h1_1 : c0 = nI 1
    · refine lv_tableIn (off := 39) (tgt := 40) S.1 S.2.1 dX0_rowBy_1 (by rw [h1_1]; decide) (by rw [h1_1]; decide) (by rw [h1_1]; rfl) (by decide) ?_
      refine lv_aload_n S.1 S.2.1 dX0_rowBy_40 rfl (lv_at hl 0 rfl) ?_
      refine x_get_rows S hC dX0_rowBy_41 ?_
      refine lv_iload_n S.1 S.2.1 dX0_rowBy_44 rfl (lv_at hl 2 rfl) ?_
      refine x_aald S hC hr12 dX0_rowBy_45 ?_
      refine lv_iload S.1 S.2.1 dX0_rowBy_46 (lv_at hl 4 rfl) ?_
      refine x_lld S hC hn hr12 ha dX0_rowBy_48 ?_
      refine lv_ldc2 S.1 S.2.1 S.2.2.2.1 (S.2.2.2.2 _ w_92) dX0_rowBy_49 ?_
      refine lv_lxor S.1 S.2.1 dX0_rowBy_52 ?_
      refine lv_aload_n S.1 S.2.1 dX0_rowBy_53 rfl (lv_at hl 0 rfl) ?_
      refine x_get_allThings S hC dX0_rowBy_54 ?_
      refine lv_land S.1 S.2.1 dX0_rowBy_57 ?_
      exact o_lret S hr hlocks hC ⟨rfl, by rw [rowF, if_neg h1_0, if_pos h1_1]⟩ dX0_rowBy_58 (Nat.le_of_ble_eq_true rfl) (Nat.le_of_ble_eq_true rfl)
    · skip
      by_cases h1_2 : c0 = nI 2
      · refine lv_tableIn (off := 58) (tgt := 59) S.1 S.2.1 dX0_rowBy_1 (by rw [h1_2]; decide) (by rw [h1_2]; decide) (by rw [h1_2]; rfl) (by decide) ?_
        obtain ⟨t, ht12, rfl⟩ := ht0 h1_0 h1_1
        refine lv_aload_n S.1 S.2.1 dX0_rowBy_59 rfl (lv_at hl 0 rfl) ?_
        refine x_get_rows S hC dX0_rowBy_60 ?_
        refine lv_iload_n S.1 S.2.1 dX0_rowBy_63 rfl (lv_at hl 2 rfl) ?_
        refine x_aald S hC hr12 dX0_rowBy_64 ?_
        refine lv_iload S.1 S.2.1 dX0_rowBy_65 (lv_at hl 4 rfl) ?_
        refine x_lld S hC hn hr12 ha dX0_rowBy_67 ?_
        refine lv_aload_n S.1 S.2.1 dX0_rowBy_68 rfl (lv_at hl 0 rfl) ?_
        refine x_get_rows S hC dX0_rowBy_69 ?_
        refine lv_iload_n S.1 S.2.1 dX0_rowBy_72 rfl (lv_at hl 3 rfl) ?_
        refine x_aald S hC ht12 dX0_rowBy_73 ?_
        refine lv_iload S.1 S.2.1 dX0_rowBy_74 (lv_at hl 4 rfl) ?_
        refine x_lld S hC hn ht12 ha dX0_rowBy_76 ?_
        refine lv_land S.1 S.2.1 dX0_rowBy_77 ?_
        exact o_lret S hr hlocks hC ⟨rfl, by rw [rowF, if_neg h1_0, if_neg h1_1, if_pos h1_2, ixN_nI (show t < 2 ^ 31 by omega)]⟩ dX0_rowBy_78 (Nat.le_of_ble_eq_true rfl) (Nat.le_of_ble_eq_true rfl)
      · skip
        by_cases h1_3 : c0 = nI 3
        · refine lv_tableIn (off := 78) (tgt := 79) S.1 S.2.1 dX0_rowBy_1 (by rw [h1_3]; decide) (by rw [h1_3]; decide) (by rw [h1_3]; rfl) (by decide) ?_
          obtain ⟨t, ht12, rfl⟩ := ht0 h1_0 h1_1
          refine lv_aload_n S.1 S.2.1 dX0_rowBy_79 rfl (lv_at hl 0 rfl) ?_
          refine x_get_rows S hC dX0_rowBy_80 ?_
          refine lv_iload_n S.1 S.2.1 dX0_rowBy_83 rfl (lv_at hl 2 rfl) ?_
          refine x_aald S hC hr12 dX0_rowBy_84 ?_
          refine lv_iload S.1 S.2.1 dX0_rowBy_85 (lv_at hl 4 rfl) ?_
          refine x_lld S hC hn hr12 ha dX0_rowBy_87 ?_
          refine lv_aload_n S.1 S.2.1 dX0_rowBy_88 rfl (lv_at hl 0 rfl) ?_
          refine x_get_rows S hC dX0_rowBy_89 ?_
          refine lv_iload_n S.1 S.2.1 dX0_rowBy_92 rfl (lv_at hl 3 rfl) ?_
          refine x_aald S hC ht12 dX0_rowBy_93 ?_
          refine lv_iload S.1 S.2.1 dX0_rowBy_94 (lv_at hl 4 rfl) ?_
          refine x_lld S hC hn ht12 ha dX0_rowBy_96 ?_
          refine lv_lor S.1 S.2.1 dX0_rowBy_97 ?_
          exact o_lret S hr hlocks hC ⟨rfl, by rw [rowF, if_neg h1_0, if_neg h1_1, if_neg h1_2, if_pos h1_3, ixN_nI (show t < 2 ^ 31 by omega)]⟩ dX0_rowBy_98 (Nat.le_of_ble_eq_true rfl) (Nat.le_of_ble_eq_true rfl)
        · skip
          refine lv_tableOut (tgt := 99) S.1 S.2.1 dX0_rowBy_1 (tsw_out 3 (fun j hj => by rcases (show j = 0 ∨ j = 1 ∨ j = 2 ∨ j = 3 by omega) with rfl | rfl | rfl | rfl <;> assumption)) (by decide) ?_
          obtain ⟨t, ht12, rfl⟩ := ht0 h1_0 h1_1
          refine lv_aload_n S.1 S.2.1 dX0_rowBy_99 rfl (lv_at hl 0 rfl) ?_
          refine lv_iload_n S.1 S.2.1 dX0_rowBy_100 rfl (lv_at hl 2 rfl) ?_
          refine lv_iload_n S.1 S.2.1 dX0_rowBy_101 rfl (lv_at hl 3 rfl) ?_
          refine lv_iload S.1 S.2.1 dX0_rowBy_102 (lv_at hl 4 rfl) ?_
          refine o_calll oiX S hC (c_X0_rowThrough l hn hr12 ht12 ha) cw_RX0_X0_rowThrough ⟨rfl, rfl, by decide, by decide⟩ rfl hl.1 rfl (Nat.le_of_ble_eq_true rfl) dX0_rowBy_104 ⟨(Nat.le_of_ble_eq_true rfl), (Nat.le_of_ble_eq_true rfl)⟩ (fun r104 S1 H locs hp hC1 => ?_)
          obtain ⟨e1, hp⟩ := hp
          rw [e1] at hC1; replace hC := hC1
          subst hp
          exact o_lret S hr hlocks hC ⟨rfl, by rw [rowF, if_neg h1_0, if_neg h1_1, if_neg h1_2, if_neg h1_3, ixN_nI (show t < 2 ^ 31 by omega)]⟩ dX0_rowBy_107 (Nat.le_of_ble_eq_true rfl) (Nat.le_of_ble_eq_true rfl)
def nearG (S : RS) (r a : Nat) : Nat → Nat → Nat
  | 0, _ => a
  | k + 1, c => if hX S r a c ∧ S.2.1 7 c = S.2.1 7 a - nI 1 then c else nearG S r a k (c + 1)
set_option maxRecDepth 100000 in
set_option maxHeartbeats 4000000 in
theorem c_X0_stepNearer (l : Launch) {loc : Nat → Nat} {n : Nat} {g : Gc} (hn : n ≤ 40) {S0 : RS} {r a : Nat} (hr12 : r < 12) (ha : a < n) : MXi l yX0_stepNearer cX0_stepNearer 4 (some .int) (rmL 3 0 0) loc n g S0 [.int (nI r), .int (nI a)] (fun v S' => S' = S0 ∧ v = nI (nearG S0 r a n 0)) := by
  refine o_enter (by decide) (Nat.le_of_ble_eq_true rfl) ?_
  intro p e s m below meth c ls S hr hlocks hC hl
  refine lv_iconst (v := nI 0) S.1 S.2.1 dX0_stepNearer_0 rfl ?_
  refine lv_istore_n S.1 S.2.1 dX0_stepNearer_1 rfl hl (by decide) rfl (fun ls hl => ?_)
  have loop : ∀ (k i : Nat), n - i < k → i ≤ n → ∀ (hT : nearG S0 r a n 0 = nearG S0 r a (n - i) i), ∀ (H : Heap) (locs : List Loc) (ls : Array Slot), CX loc n g (S0) s H locs → lv_has ls 4 [(0, .ref (loc 0)), (1, .int (nI r)), (2, .int (nI a)), (3, .int (nI i))] → W p l e (rmL 3 0 0) s m ([.ref (loc 0), .int (nI r), .int (nI a)] : List Value).toArray below meth c H locs 0 0 (MQ below (va_Qi (fun v S' => S' = S0 ∧ v = nI (nearG S0 r a n 0)) (fun S' t => HX loc n g S' t.heap) (ZA loc 21)) ([.ref (loc 0), .int (nI r), .int (nI a)] : List Value).toArray s (rmL 3 0 0).cells (rmL 3 0 0).slots (ZA loc 21)) (F0 m 2 ls []) := by
    intro k
    induction k with
    | zero => intro i hk; omega
    | succ k ih =>
      intro i hk hi hT H locs ls hC hl
      refine lv_iload_n S.1 S.2.1 dX0_stepNearer_2 rfl (lv_at hl 3 rfl) ?_
      refine lv_aload_n S.1 S.2.1 dX0_stepNearer_3 rfl (lv_at hl 0 rfl) ?_
      refine x_get_things S hC dX0_stepNearer_4 ?_
      refine n_icmp_ge (tgt := 45) S.1 S.2.1 dX0_stepNearer_7 (by decide) (by omega) (by omega) (fun c7 => ?_) (fun c7 => ?_)
      · skip
        refine lv_iload_n S.1 S.2.1 dX0_stepNearer_45 rfl (lv_at hl 2 rfl) ?_
        exact o_iret S hr hlocks hC ⟨rfl, by rw [hT, show n - i = 0 by omega, nearG]⟩ rfl dX0_stepNearer_46 (Nat.le_of_ble_eq_true rfl) (Nat.le_of_ble_eq_true rfl)
      · skip
        refine lv_aload_n S.1 S.2.1 dX0_stepNearer_10 rfl (lv_at hl 0 rfl) ?_
        refine lv_iload_n S.1 S.2.1 dX0_stepNearer_11 rfl (lv_at hl 1 rfl) ?_
        refine lv_iload_n S.1 S.2.1 dX0_stepNearer_12 rfl (lv_at hl 2 rfl) ?_
        refine lv_iload_n S.1 S.2.1 dX0_stepNearer_13 rfl (lv_at hl 3 rfl) ?_
        refine o_calli oiX S hC (c_X0_holds l hn hr12 ha (b := i) (by omega)) cw_RX0_X0_holds ⟨rfl, rfl, by decide, by decide⟩ rfl hl.1 rfl (Nat.le_of_ble_eq_true rfl) dX0_stepNearer_14 ⟨(Nat.le_of_ble_eq_true rfl), (Nat.le_of_ble_eq_true rfl)⟩ (fun r14 S1 H locs hp hC1 => ?_)
        obtain ⟨e1, hp⟩ := hp
        rw [e1] at hC1; replace hC := hC1
        subst hp
        refine b_if_eq (tgt := 39) S.1 S.2.1 dX0_stepNearer_17 (by decide) (fun c17 => ?_) (fun c17 => ?_)
        · skip
          refine lv_iinc (k := 3) S.1 S.2.1 dX0_stepNearer_39 hl rfl (n_inc _) (by decide) rfl (fun ls hl => ?_)
          refine lv_goto (tgt := 2) S.1 S.2.1 dX0_stepNearer_42 (by decide) ?_
          exact ih (i + 1) (by omega) (by omega) (by rw [hT, show n - i = (n - (i + 1)) + 1 by omega, nearG, if_neg (by simp [c17])]) _ _ _ hC (lv_sub hl [1, 2, 3, 0] rfl)
        · skip
          refine lv_aload_n S.1 S.2.1 dX0_stepNearer_20 rfl (lv_at hl 0 rfl) ?_
          refine x_get_steps S hC dX0_stepNearer_21 ?_
          refine lv_iload_n S.1 S.2.1 dX0_stepNearer_24 rfl (lv_at hl 3 rfl) ?_
          refine x_ild S hC hn 7 (by decide) (show i < n by omega) dX0_stepNearer_25 ?_
          refine lv_aload_n S.1 S.2.1 dX0_stepNearer_26 rfl (lv_at hl 0 rfl) ?_
          refine x_get_steps S hC dX0_stepNearer_27 ?_
          refine lv_iload_n S.1 S.2.1 dX0_stepNearer_30 rfl (lv_at hl 2 rfl) ?_
          refine x_ild S hC hn 7 (by decide) ha dX0_stepNearer_31 ?_
          refine lv_iconst (v := nI 1) S.1 S.2.1 dX0_stepNearer_32 rfl ?_
          refine lv_isub S.1 S.2.1 dX0_stepNearer_33 ?_
          refine lv_icmp_ne (tgt := 39) S.1 S.2.1 dX0_stepNearer_34 (by decide) (fun c34 => ?_) (fun c34 => ?_)
          · skip
            refine lv_iinc (k := 3) S.1 S.2.1 dX0_stepNearer_39 hl rfl (n_inc _) (by decide) rfl (fun ls hl => ?_)
            refine lv_goto (tgt := 2) S.1 S.2.1 dX0_stepNearer_42 (by decide) ?_
            exact ih (i + 1) (by omega) (by omega) (by rw [hT, show n - i = (n - (i + 1)) + 1 by omega, nearG, if_neg (fun q => c34 q.2)]) _ _ _ hC (lv_sub hl [1, 2, 3, 0] rfl)
          · skip
            refine lv_iload_n S.1 S.2.1 dX0_stepNearer_37 rfl (lv_at hl 3 rfl) ?_
            exact o_iret S hr hlocks hC ⟨rfl, by rw [hT, show n - i = (n - (i + 1)) + 1 by omega, nearG, if_pos ⟨c17, c34⟩]⟩ rfl dX0_stepNearer_38 (Nat.le_of_ble_eq_true rfl) (Nat.le_of_ble_eq_true rfl)
  exact loop (n + 1) 0 (by omega) (by omega) rfl _ _ _ hC (lv_sub hl [1, 2, 3, 0] rfl)
end
section
def fI (S : RS) (r u : Nat) : Nat → RS
  | 0 => S
  | k + 1 => if hX (fI S r u k) r k u then sW (fI S r u k) r k ((fI S r u k).2.2 r k ||| (fI S r u k).2.2 r u) else fI S r u k
def fO (S : RS) (r n : Nat) : Nat → RS
  | 0 => S
  | k + 1 => fI (fO S r n k) r k n
def farF (S : RS) (n r : Nat) : RS := fO (cpF S r (ixN (S.2.1 3 r))) r n n
def wOF (S : RS) (n r : Nat) : Nat → RS
  | 0 => S
  | k + 1 => sW (wOF S n r k) r k (rowF (wOF S n r k) n (S.2.1 2 r - nI 10) (ixN (S.2.1 3 r)) (ixN (S.2.1 4 r)) k)
def workF (S : RS) (n r : Nat) : RS := if S.2.1 2 r = nI 15 then farF S n r else wOF S n r n
def setF (S : RS) (n t : Nat) : Nat → RS
  | 0 => S
  | k + 1 => if byC (setF S n t k) (t + k) then workF (setF S n t k) n (t + k) else setF S n t k
theorem fI_1 (S : RS) (r u : Nat) : ∀ k, (fI S r u k).1 = S.1 ∧ (fI S r u k).2.1 = S.2.1
  | 0 => ⟨rfl, rfl⟩
  | k + 1 => by
    unfold fI
    split
    · exact fI_1 S r u k
    · exact fI_1 S r u k
theorem fO_1 (S : RS) (r n : Nat) : ∀ k, (fO S r n k).1 = S.1 ∧ (fO S r n k).2.1 = S.2.1
  | 0 => ⟨rfl, rfl⟩
  | k + 1 => ⟨(fI_1 (fO S r n k) r k n).1.trans (fO_1 S r n k).1, (fI_1 (fO S r n k) r k n).2.trans (fO_1 S r n k).2⟩
theorem wOF_1 (S : RS) (n r : Nat) : ∀ k, (wOF S n r k).1 = S.1 ∧ (wOF S n r k).2.1 = S.2.1
  | 0 => ⟨rfl, rfl⟩
  | k + 1 => wOF_1 S n r k
theorem workF_1 (S : RS) (n r : Nat) : (workF S n r).1 = S.1 ∧ (workF S n r).2.1 = S.2.1 := by
  unfold workF
  split
  · exact fO_1 _ _ _ _
  · exact wOF_1 _ _ _ _
theorem setF_1 (S : RS) (n t : Nat) : ∀ k, (setF S n t k).1 = S.1 ∧ (setF S n t k).2.1 = S.2.1
  | 0 => ⟨rfl, rfl⟩
  | k + 1 => by
    have ih := setF_1 S n t k
    unfold setF
    split
    · exact ⟨(workF_1 _ n (t + k)).1.trans ih.1, (workF_1 _ n (t + k)).2.trans ih.2⟩
    · exact ih
/-- a relation by a condition, as it must be -/
def wfR (S : RS) (q : Nat) : Prop := ∃ cn j, cn < 6 ∧ S.2.1 2 q = nI (10 + cn) ∧ j < 12 ∧ S.2.1 3 q = nI j ∧ (2 ≤ cn → cn ≤ 4 → ∃ t, t < 12 ∧ S.2.1 4 q = nI t)
set_option maxRecDepth 100000 in
set_option maxHeartbeats 4000000 in
theorem c_X0_workOutFar (l : Launch) {loc : Nat → Nat} {n : Nat} {g : Gc} (hn : n ≤ 40) {S0 : RS} {r j : Nat} (hr12 : r < 12) (hj : j < 12) (h1 : S0.2.1 3 r = nI j) : MXv l yX0_workOutFar cX0_workOutFar 4 none (rmL 3 0 0) loc n g S0 [.int (nI r)] (fun S' => S' = farF S0 n r) := by
  refine o_enter (by decide) (Nat.le_of_ble_eq_true rfl) ?_
  intro p e s m below meth c ls S hr hlocks hC hl
  refine lv_aload_n S.1 S.2.1 dX0_workOutFar_0 rfl (lv_at hl 0 rfl) ?_
  refine x_get_rows S hC dX0_workOutFar_1 ?_
  refine lv_aload_n S.1 S.2.1 dX0_workOutFar_4 rfl (lv_at hl 0 rfl) ?_
  refine x_get_firsts S hC dX0_workOutFar_5 ?_
  refine lv_iload_n S.1 S.2.1 dX0_workOutFar_8 rfl (lv_at hl 1 rfl) ?_
  refine x_ild S hC hn 3 (by decide) hr12 dX0_workOutFar_9 ?_
  rw [h1]
  refine x_aald S hC hj dX0_workOutFar_10 ?_
  refine lv_iconst (v := nI 0) S.1 S.2.1 dX0_workOutFar_11 rfl ?_
  refine lv_aload_n S.1 S.2.1 dX0_workOutFar_12 rfl (lv_at hl 0 rfl) ?_
  refine x_get_rows S hC dX0_workOutFar_13 ?_
  refine lv_iload_n S.1 S.2.1 dX0_workOutFar_16 rfl (lv_at hl 1 rfl) ?_
  refine x_aald S hC hr12 dX0_workOutFar_17 ?_
  refine lv_iconst (v := nI 0) S.1 S.2.1 dX0_workOutFar_18 rfl ?_
  refine lv_aload_n S.1 S.2.1 dX0_workOutFar_19 rfl (lv_at hl 0 rfl) ?_
  refine x_get_things S hC dX0_workOutFar_20 ?_
  refine x_copy S hC hn hj hr12 hl.1 ⟨(Nat.le_of_ble_eq_true rfl), (Nat.le_of_ble_eq_true rfl)⟩ dX0_workOutFar_23 (fun H locs hC => ?_)
  refine lv_iconst (v := nI 0) S.1 S.2.1 dX0_workOutFar_26 rfl ?_
  refine lv_istore_n S.1 S.2.1 dX0_workOutFar_27 rfl hl (by decide) rfl (fun ls hl => ?_)
  have loopO : ∀ (k u : Nat), n - u < k → u ≤ n → ∀ (H : Heap) (locs : List Loc) (ls : Array Slot), CX loc n g (fO (cpF S0 r j) r n u) s H locs → lv_has ls 4 [(0, .ref (loc 0)), (1, .int (nI r)), (2, .int (nI u))] → W p l e (rmL 3 0 0) s m ([.ref (loc 0), .int (nI r)] : List Value).toArray below meth c H locs 0 0 (MQ below (va_Qv (fun S' => S' = farF S0 n r) (fun S' t => HX loc n g S' t.heap) (ZA loc 21)) ([.ref (loc 0), .int (nI r)] : List Value).toArray s (rmL 3 0 0).cells (rmL 3 0 0).slots (ZA loc 21)) (F0 m 28 ls []) := by
    intro k
    induction k with
    | zero => intro u hk; omega
    | succ k ihO =>
      intro u hkO hiO  H locs ls hC hl
      refine lv_iload_n S.1 S.2.1 dX0_workOutFar_28 rfl (lv_at hl 2 rfl) ?_
      refine lv_aload_n S.1 S.2.1 dX0_workOutFar_29 rfl (lv_at hl 0 rfl) ?_
      refine x_get_things S hC dX0_workOutFar_30 ?_
      refine n_icmp_ge (tgt := 87) S.1 S.2.1 dX0_workOutFar_33 (by decide) (by omega) (by omega) (fun c33 => ?_) (fun c33 => ?_)
      · skip
        exact o_vret S hr hlocks hC (by rw [farF, h1, ixN_nI (by omega), show n = u by omega]) dX0_workOutFar_87 (Nat.le_of_ble_eq_true rfl) (Nat.le_of_ble_eq_true rfl)
      · skip
        refine lv_iconst (v := nI 0) S.1 S.2.1 dX0_workOutFar_36 rfl ?_
        refine lv_istore_n S.1 S.2.1 dX0_workOutFar_37 rfl hl (by decide) rfl (fun ls hl => ?_)
        have loop : ∀ (k i : Nat), n - i < k → i ≤ n → ∀ (H : Heap) (locs : List Loc) (ls : Array Slot), CX loc n g (fI (fO (cpF S0 r j) r n u) r u i) s H locs → lv_has ls 4 [(0, .ref (loc 0)), (1, .int (nI r)), (2, .int (nI u)), (3, .int (nI i))] → W p l e (rmL 3 0 0) s m ([.ref (loc 0), .int (nI r)] : List Value).toArray below meth c H locs 0 0 (MQ below (va_Qv (fun S' => S' = farF S0 n r) (fun S' t => HX loc n g S' t.heap) (ZA loc 21)) ([.ref (loc 0), .int (nI r)] : List Value).toArray s (rmL 3 0 0).cells (rmL 3 0 0).slots (ZA loc 21)) (F0 m 38 ls []) := by
          intro k
          induction k with
          | zero => intro i hk; omega
          | succ k ih =>
            intro i hk hi  H locs ls hC hl
            refine lv_iload_n S.1 S.2.1 dX0_workOutFar_38 rfl (lv_at hl 3 rfl) ?_
            refine lv_aload_n S.1 S.2.1 dX0_workOutFar_39 rfl (lv_at hl 0 rfl) ?_
            refine x_get_things S hC dX0_workOutFar_40 ?_
            refine n_icmp_ge (tgt := 81) S.1 S.2.1 dX0_workOutFar_43 (by decide) (by omega) (by omega) (fun c43 => ?_) (fun c43 => ?_)
            · skip
              refine lv_iinc (k := 2) S.1 S.2.1 dX0_workOutFar_81 hl rfl (n_inc _) (by decide) rfl (fun ls hl => ?_)
              refine lv_goto (tgt := 28) S.1 S.2.1 dX0_workOutFar_84 (by decide) ?_
              exact ihO (u + 1) (by omega) (by omega) _ _ _ (by rw [show fO (cpF S0 r j) r n (u + 1) = fI (fO (cpF S0 r j) r n u) r u i by rw [show i = n by omega]; rfl]; exact hC) (lv_sub hl [1, 2, 0] rfl)
            · skip
              refine lv_aload_n S.1 S.2.1 dX0_workOutFar_46 rfl (lv_at hl 0 rfl) ?_
              refine lv_iload_n S.1 S.2.1 dX0_workOutFar_47 rfl (lv_at hl 1 rfl) ?_
              refine lv_iload_n S.1 S.2.1 dX0_workOutFar_48 rfl (lv_at hl 3 rfl) ?_
              refine lv_iload_n S.1 S.2.1 dX0_workOutFar_49 rfl (lv_at hl 2 rfl) ?_
              refine o_calli oiX S hC (c_X0_holds l hn hr12 (a := i) (b := u) (by omega) (by omega)) cw_RX0_X0_holds ⟨rfl, rfl, by decide, by decide⟩ rfl hl.1 rfl (Nat.le_of_ble_eq_true rfl) dX0_workOutFar_50 ⟨(Nat.le_of_ble_eq_true rfl), (Nat.le_of_ble_eq_true rfl)⟩ (fun r50 S1 H locs hp hC1 => ?_)
              obtain ⟨e1, hp⟩ := hp
              rw [e1] at hC1; replace hC := hC1
              subst hp
              refine b_if_eq (tgt := 75) S.1 S.2.1 dX0_workOutFar_53 (by decide) (fun c53 => ?_) (fun c53 => ?_)
              · skip
                refine lv_iinc (k := 3) S.1 S.2.1 dX0_workOutFar_75 hl rfl (n_inc _) (by decide) rfl (fun ls hl => ?_)
                refine lv_goto (tgt := 38) S.1 S.2.1 dX0_workOutFar_78 (by decide) ?_
                exact ih (i + 1) (by omega) (by omega) _ _ _ (by rw [fI, if_neg (by simp [c53])]; exact hC) (lv_sub hl [1, 2, 3, 0] rfl)
              · skip
                refine lv_aload_n S.1 S.2.1 dX0_workOutFar_56 rfl (lv_at hl 0 rfl) ?_
                refine x_get_rows S hC dX0_workOutFar_57 ?_
                refine lv_iload_n S.1 S.2.1 dX0_workOutFar_60 rfl (lv_at hl 1 rfl) ?_
                refine x_aald S hC hr12 dX0_workOutFar_61 ?_
                refine lv_iload_n S.1 S.2.1 dX0_workOutFar_62 rfl (lv_at hl 3 rfl) ?_
                refine lv_dup2_11 S.1 S.2.1 dX0_workOutFar_63 rfl rfl ?_
                refine x_lld S hC hn hr12 (show i < n by omega) dX0_workOutFar_64 ?_
                refine lv_aload_n S.1 S.2.1 dX0_workOutFar_65 rfl (lv_at hl 0 rfl) ?_
                refine x_get_rows S hC dX0_workOutFar_66 ?_
                refine lv_iload_n S.1 S.2.1 dX0_workOutFar_69 rfl (lv_at hl 1 rfl) ?_
                refine x_aald S hC hr12 dX0_workOutFar_70 ?_
                refine lv_iload_n S.1 S.2.1 dX0_workOutFar_71 rfl (lv_at hl 2 rfl) ?_
                refine x_lld S hC hn hr12 (show u < n by omega) dX0_workOutFar_72 ?_
                refine lv_lor S.1 S.2.1 dX0_workOutFar_73 ?_
                refine x_lst S hC hn hr12 (show i < n by omega) dX0_workOutFar_74 (fun H locs hC => ?_)
                refine lv_iinc (k := 3) S.1 S.2.1 dX0_workOutFar_75 hl rfl (n_inc _) (by decide) rfl (fun ls hl => ?_)
                refine lv_goto (tgt := 38) S.1 S.2.1 dX0_workOutFar_78 (by decide) ?_
                exact ih (i + 1) (by omega) (by omega) _ _ _ (by rw [fI, if_pos c53]; exact hC) (lv_sub hl [1, 2, 3, 0] rfl)
        exact loop (n + 1) 0 (by omega) (by omega) _ _ _ hC (lv_sub hl [1, 2, 3, 0] rfl)
  exact loopO (n + 1) 0 (by omega) (by omega) _ _ _ hC (lv_sub hl [1, 2, 0] rfl)
set_option maxRecDepth 100000 in
set_option maxHeartbeats 4000000 in
theorem c_X0_workOut (l : Launch) {loc : Nat → Nat} {n : Nat} {g : Gc} (hn : n ≤ 40) {S0 : RS} {r cn j : Nat} (hr12 : r < 12) (hcn : cn < 6) (hf : S0.2.1 2 r = nI (10 + cn)) (hj : j < 12) (h1 : S0.2.1 3 r = nI j) (h2 : 2 ≤ cn → cn ≤ 4 → ∃ t, t < 12 ∧ S0.2.1 4 r = nI t) : MXv l yX0_workOut cX0_workOut 4 none (rmL 5 0 0) loc n g S0 [.int (nI r)] (fun S' => S' = workF S0 n r) := by
  refine o_enter (by decide) (Nat.le_of_ble_eq_true rfl) ?_
  intro p e s m below meth c ls S hr hlocks hC hl
  refine lv_aload_n S.1 S.2.1 dX0_workOut_0 rfl (lv_at hl 0 rfl) ?_
  refine x_get_forms S hC dX0_workOut_1 ?_
  refine lv_iload_n S.1 S.2.1 dX0_workOut_4 rfl (lv_at hl 1 rfl) ?_
  refine x_ild S hC hn 2 (by decide) hr12 dX0_workOut_5 ?_
  rw [hf]
  refine lv_bipush (v := nI 10) S.1 S.2.1 dX0_workOut_6 rfl ?_
  refine t_isub S.1 S.2.1 dX0_workOut_8 (show nI (10 + cn) - nI 10 = nI cn by rw [pk_sub (by omega), Nat.add_sub_cancel_left]) ?_
  refine lv_istore_n S.1 S.2.1 dX0_workOut_9 rfl hl (by decide) rfl (fun ls hl => ?_)
  refine lv_iload_n S.1 S.2.1 dX0_workOut_10 rfl (lv_at hl 0 rfl) ?_
  refine lv_iconst (v := nI 5) S.1 S.2.1 dX0_workOut_11 rfl ?_
  refine n_icmp_ne (tgt := 21) S.1 S.2.1 dX0_workOut_12 (by decide) (by omega) (by omega) (fun c12 => ?_) (fun c12 => ?_)
  · skip
    refine lv_iconst (v := nI 0) S.1 S.2.1 dX0_workOut_21 rfl ?_
    refine lv_istore_n S.1 S.2.1 dX0_workOut_22 rfl hl (by decide) rfl (fun ls hl => ?_)
    have loop : ∀ (k i : Nat), n - i < k → i ≤ n → ∀ (H : Heap) (locs : List Loc) (ls : Array Slot), CX loc n g (wOF S0 n r i) s H locs → lv_has ls 4 [(0, .ref (loc 0)), (1, .int (nI r)), (2, .int (nI cn)), (3, .int (nI i))] → W p l e (rmL 5 0 0) s m ([.ref (loc 0), .int (nI r)] : List Value).toArray below meth c H locs 0 0 (MQ below (va_Qv (fun S' => S' = workF S0 n r) (fun S' t => HX loc n g S' t.heap) (ZA loc 21)) ([.ref (loc 0), .int (nI r)] : List Value).toArray s (rmL 5 0 0).cells (rmL 5 0 0).slots (ZA loc 21)) (F0 m 23 ls []) := by
      intro k
      induction k with
      | zero => intro i hk; omega
      | succ k ih =>
        intro i hk hi  H locs ls hC hl
        refine lv_iload_n S.1 S.2.1 dX0_workOut_23 rfl (lv_at hl 3 rfl) ?_
        refine lv_aload_n S.1 S.2.1 dX0_workOut_24 rfl (lv_at hl 0 rfl) ?_
        refine x_get_things S hC dX0_workOut_25 ?_
        refine n_icmp_ge (tgt := 63) S.1 S.2.1 dX0_workOut_28 (by decide) (by omega) (by omega) (fun c28 => ?_) (fun c28 => ?_)
        · skip
          exact o_vret S hr hlocks hC (by rw [workF, if_neg (by rw [hf]; exact fun q => c12 (by have := (nI_eq (by omega) (by omega)).mp q; omega)), show n = i by omega]) dX0_workOut_63 (Nat.le_of_ble_eq_true rfl) (Nat.le_of_ble_eq_true rfl)
        · skip
          refine lv_aload_n S.1 S.2.1 dX0_workOut_31 rfl (lv_at hl 0 rfl) ?_
          refine x_get_rows S hC dX0_workOut_32 ?_
          refine lv_iload_n S.1 S.2.1 dX0_workOut_35 rfl (lv_at hl 1 rfl) ?_
          refine x_aald S hC hr12 dX0_workOut_36 ?_
          refine lv_iload_n S.1 S.2.1 dX0_workOut_37 rfl (lv_at hl 3 rfl) ?_
          refine lv_aload_n S.1 S.2.1 dX0_workOut_38 rfl (lv_at hl 0 rfl) ?_
          refine lv_iload_n S.1 S.2.1 dX0_workOut_39 rfl (lv_at hl 2 rfl) ?_
          refine lv_aload_n S.1 S.2.1 dX0_workOut_40 rfl (lv_at hl 0 rfl) ?_
          refine x_get_firsts S hC dX0_workOut_41 ?_
          refine lv_iload_n S.1 S.2.1 dX0_workOut_44 rfl (lv_at hl 1 rfl) ?_
          refine x_ild S hC hn 3 (by decide) hr12 dX0_workOut_45 ?_
          rw [show (wOF S0 n r i).2.1 3 r = nI j by rw [(wOF_1 S0 n r i).2]; exact h1]
          refine lv_aload_n S.1 S.2.1 dX0_workOut_46 rfl (lv_at hl 0 rfl) ?_
          refine x_get_seconds S hC dX0_workOut_47 ?_
          refine lv_iload_n S.1 S.2.1 dX0_workOut_50 rfl (lv_at hl 1 rfl) ?_
          refine x_ild S hC hn 4 (by decide) hr12 dX0_workOut_51 ?_
          refine lv_iload_n S.1 S.2.1 dX0_workOut_52 rfl (lv_at hl 3 rfl) ?_
          refine o_calll oiX S hC (c_X0_rowBy l hn (nI cn) (a := i) hj (fun q1 q2 => by rw [(wOF_1 S0 n r i).2]; exact h2 (Nat.le_of_not_lt fun q => by rcases (show cn = 0 ∨ cn = 1 by omega) with rfl | rfl; exact q1 rfl; exact q2 rfl) (by omega)) (by omega)) cw_RX0_X0_rowBy ⟨rfl, rfl, by decide, by decide⟩ rfl hl.1 rfl (Nat.le_of_ble_eq_true rfl) dX0_workOut_53 ⟨(Nat.le_of_ble_eq_true rfl), (Nat.le_of_ble_eq_true rfl)⟩ (fun r53 S1 H locs hp hC1 => ?_)
          obtain ⟨e1, hp⟩ := hp
          rw [e1] at hC1; replace hC := hC1
          subst hp
          refine x_lst S hC hn hr12 (show i < n by omega) dX0_workOut_56 (fun H locs hC => ?_)
          refine lv_iinc (k := 3) S.1 S.2.1 dX0_workOut_57 hl rfl (n_inc _) (by decide) rfl (fun ls hl => ?_)
          refine lv_goto (tgt := 23) S.1 S.2.1 dX0_workOut_60 (by decide) ?_
          rw [(wOF_1 S0 n r i).2] at hC
          exact ih (i + 1) (by omega) (by omega) _ _ _ (by rw [wOF, hf, h1, (show nI (10 + cn) - nI 10 = nI cn by rw [pk_sub (by omega), Nat.add_sub_cancel_left]), ixN_nI (show j < 2 ^ 31 by omega)]; exact hC) (lv_sub hl [1, 2, 3, 0] rfl)
    exact loop (n + 1) 0 (by omega) (by omega) _ _ _ hC (lv_sub hl [2, 3, 1, 0] rfl)
  · skip
    refine lv_aload_n S.1 S.2.1 dX0_workOut_15 rfl (lv_at hl 1 rfl) ?_
    refine lv_iload_n S.1 S.2.1 dX0_workOut_16 rfl (lv_at hl 2 rfl) ?_
    refine o_callv oiX S hC (c_X0_workOutFar l hn hr12 hj h1) cw_RX0_X0_workOutFar ⟨rfl, rfl, by decide, by decide⟩ rfl hl.1 rfl (Nat.le_of_ble_eq_true rfl) dX0_workOut_17 ⟨(Nat.le_of_ble_eq_true rfl), (Nat.le_of_ble_eq_true rfl)⟩ (fun S1 H locs hp hC1 => ?_)
    have e1 := hp
    rw [e1] at hC1; replace hC := hC1
    exact o_vret S hr hlocks hC (by rw [workF, if_pos (by rw [hf, c12])]) dX0_workOut_20 (Nat.le_of_ble_eq_true rfl) (Nat.le_of_ble_eq_true rfl)
set_option maxRecDepth 100000 in
set_option maxHeartbeats 4000000 in
theorem c_X0_settle (l : Launch) {loc : Nat → Nat} {n : Nat} {g : Gc} (hn : n ≤ 40) {S0 : RS} {r t : Nat} (hr12 : r < 12) (ht12 : t ≤ 12) (ht : S0.1 1 = nI t) (hw : ∀ q, q ≤ r → byC S0 q = true → wfR S0 q) : MXv l yX0_settle cX0_settle 3 none (rmL 6 0 0) loc n g S0 [.int (nI r)] (fun S' => S' = sI (setF S0 n t (max t (r + 1) - t)) 1 (nI (max t (r + 1)))) := by
  refine o_enter (by decide) (Nat.le_of_ble_eq_true rfl) ?_
  intro p e s m below meth c ls S hr hlocks hC hl
  refine lv_aload_n S.1 S.2.1 dX0_settle_0 rfl (lv_at hl 0 rfl) ?_
  refine x_get_settled S hC dX0_settle_1 ?_
  rw [ht]
  refine lv_istore_n S.1 S.2.1 dX0_settle_4 rfl hl (by decide) rfl (fun ls hl => ?_)
  have loop : ∀ (k i : Nat), (max t (r + 1)) - i < k → i ≤ (max t (r + 1)) → ∀ (hti : t ≤ i), ∀ (H : Heap) (locs : List Loc) (ls : Array Slot), CX loc n g (setF S0 n t (i - t)) s H locs → lv_has ls 3 [(0, .ref (loc 0)), (1, .int (nI r)), (2, .int (nI i))] → W p l e (rmL 6 0 0) s m ([.ref (loc 0), .int (nI r)] : List Value).toArray below meth c H locs 0 0 (MQ below (va_Qv (fun S' => S' = sI (setF S0 n t (max t (r + 1) - t)) 1 (nI (max t (r + 1)))) (fun S' t => HX loc n g S' t.heap) (ZA loc 21)) ([.ref (loc 0), .int (nI r)] : List Value).toArray s (rmL 6 0 0).cells (rmL 6 0 0).slots (ZA loc 21)) (F0 m 5 ls []) := by
    intro k
    induction k with
    | zero => intro i hk; omega
    | succ k ih =>
      intro i hk hi hti H locs ls hC hl
      refine lv_iload_n S.1 S.2.1 dX0_settle_5 rfl (lv_at hl 2 rfl) ?_
      refine lv_iload_n S.1 S.2.1 dX0_settle_6 rfl (lv_at hl 1 rfl) ?_
      refine n_icmp_gt (tgt := 29) S.1 S.2.1 dX0_settle_7 (by decide) (by omega) (by omega) (fun c7 => ?_) (fun c7 => ?_)
      · skip
        refine lv_aload_n S.1 S.2.1 dX0_settle_29 rfl (lv_at hl 0 rfl) ?_
        refine lv_aload_n S.1 S.2.1 dX0_settle_30 rfl (lv_at hl 0 rfl) ?_
        refine x_get_settled S hC dX0_settle_31 ?_
        rw [show (setF S0 n t (i - t)).1 1 = nI t by rw [(setF_1 S0 n t (i - t)).1]; exact ht]
        refine lv_iload_n S.1 S.2.1 dX0_settle_34 rfl (lv_at hl 1 rfl) ?_
        refine lv_iconst (v := nI 1) S.1 S.2.1 dX0_settle_35 rfl ?_
        refine t_iadd S.1 S.2.1 dX0_settle_36 (nI_add _ _) ?_
        refine x_max S hl.1 (by omega) (by omega) ⟨(Nat.le_of_ble_eq_true rfl), (Nat.le_of_ble_eq_true rfl), (Nat.le_of_ble_eq_true rfl), (Nat.le_of_ble_eq_true rfl)⟩ dX0_settle_37 ?_
        refine x_put_settled S hC dX0_settle_40 (fun H locs hC => ?_)
        exact o_vret S hr hlocks hC (by rw [show i = max t (r + 1) by omega]) dX0_settle_43 (Nat.le_of_ble_eq_true rfl) (Nat.le_of_ble_eq_true rfl)
      · skip
        refine lv_aload_n S.1 S.2.1 dX0_settle_10 rfl (lv_at hl 0 rfl) ?_
        refine lv_iload_n S.1 S.2.1 dX0_settle_11 rfl (lv_at hl 2 rfl) ?_
        refine o_calli oiX S hC (c_X0_isByCondition l hn (r := i) (by omega)) cw_RX0_X0_isByCondition ⟨rfl, rfl, by decide, by decide⟩ rfl hl.1 rfl (Nat.le_of_ble_eq_true rfl) dX0_settle_12 ⟨(Nat.le_of_ble_eq_true rfl), (Nat.le_of_ble_eq_true rfl)⟩ (fun r12 S1 H locs hp hC1 => ?_)
        obtain ⟨e1, hp⟩ := hp
        rw [e1] at hC1; replace hC := hC1
        subst hp
        refine b_if_eq (tgt := 23) S.1 S.2.1 dX0_settle_15 (by decide) (fun c15 => ?_) (fun c15 => ?_)
        · skip
          refine lv_iinc (k := 2) S.1 S.2.1 dX0_settle_23 hl rfl (n_inc _) (by decide) rfl (fun ls hl => ?_)
          refine lv_goto (tgt := 5) S.1 S.2.1 dX0_settle_26 (by decide) ?_
          exact ih (i + 1) (by omega) (by omega) (by omega) _ _ _ (by rw [show i + 1 - t = (i - t) + 1 by omega, setF, show t + (i - t) = i by omega, if_neg (by simp [c15])]; exact hC) (lv_sub hl [1, 2, 0] rfl)
        · have c16 : byC S0 i = true := by rw [← c15]; unfold byC; rw [(setF_1 S0 n t (i - t)).2]
          obtain ⟨cn, j, hcn, hf, hj, h1, h2⟩ := hw i (by omega) c16
          refine lv_aload_n S.1 S.2.1 dX0_settle_18 rfl (lv_at hl 0 rfl) ?_
          refine lv_iload_n S.1 S.2.1 dX0_settle_19 rfl (lv_at hl 2 rfl) ?_
          refine o_callv oiX S hC (c_X0_workOut l hn (r := i) (by omega) hcn (by rw [(setF_1 S0 n t (i - t)).2]; exact hf) hj (by rw [(setF_1 S0 n t (i - t)).2]; exact h1) (by rw [(setF_1 S0 n t (i - t)).2]; exact h2)) cw_RX0_X0_workOut ⟨rfl, rfl, by decide, by decide⟩ rfl hl.1 rfl (Nat.le_of_ble_eq_true rfl) dX0_settle_20 ⟨(Nat.le_of_ble_eq_true rfl), (Nat.le_of_ble_eq_true rfl)⟩ (fun S1 H locs hp hC1 => ?_)
          have e1 := hp
          rw [e1] at hC1; replace hC := hC1
          refine lv_iinc (k := 2) S.1 S.2.1 dX0_settle_23 hl rfl (n_inc _) (by decide) rfl (fun ls hl => ?_)
          refine lv_goto (tgt := 5) S.1 S.2.1 dX0_settle_26 (by decide) ?_
          clear h2 hw
          exact ih (i + 1) (by omega) (by omega) (by omega) _ _ _ (by rw [show i + 1 - t = (i - t) + 1 by omega, setF, show t + (i - t) = i by omega, if_pos c15]; exact hC) (lv_sub hl [1, 2, 0] rfl)
  exact loop ((max t (r + 1)) + 1) t (by omega) (by omega) (Nat.le_refl t) _ _ _ (by rw [Nat.sub_self]; exact hC) (lv_sub hl [1, 2, 0] rfl)
set_option maxRecDepth 100000 in
set_option maxHeartbeats 4000000 in
theorem c_X0_makeStale (l : Launch) {loc : Nat → Nat} {n : Nat} {g : Gc} (hn : n ≤ 40) {S0 : RS} {r t : Nat} (hr12 : r < 12) (ht12 : t ≤ 12) (ht : S0.1 1 = nI t) : MXv l yX0_makeStale cX0_makeStale 2 none (rmL 2 0 0) loc n g S0 [.int (nI r)] (fun S' => S' = sI S0 1 (nI (min t (r + 1)))) := by
  refine o_enter (by decide) (Nat.le_of_ble_eq_true rfl) ?_
  intro p e s m below meth c ls S hr hlocks hC hl
  refine lv_aload_n S.1 S.2.1 dX0_makeStale_0 rfl (lv_at hl 0 rfl) ?_
  refine lv_aload_n S.1 S.2.1 dX0_makeStale_1 rfl (lv_at hl 0 rfl) ?_
  refine x_get_settled S hC dX0_makeStale_2 ?_
  rw [ht]
  refine lv_iload_n S.1 S.2.1 dX0_makeStale_5 rfl (lv_at hl 1 rfl) ?_
  refine lv_iconst (v := nI 1) S.1 S.2.1 dX0_makeStale_6 rfl ?_
  refine t_iadd S.1 S.2.1 dX0_makeStale_7 (nI_add _ _) ?_
  refine x_min S hl.1 (by omega) (by omega) ⟨(Nat.le_of_ble_eq_true rfl), (Nat.le_of_ble_eq_true rfl), (Nat.le_of_ble_eq_true rfl), (Nat.le_of_ble_eq_true rfl)⟩ dX0_makeStale_8 ?_
  refine x_put_settled S hC dX0_makeStale_11 (fun H locs hC => ?_)
  exact o_vret S hr hlocks hC rfl dX0_makeStale_14 (Nat.le_of_ble_eq_true rfl) (Nat.le_of_ble_eq_true rfl)
def mI (P : RS × Int64) (r u : Nat) (bf : Int64) : Nat → RS × Int64
  | 0 => P
  | k + 1 => if (mI P r u bf k).1.2.1 7 k = -1 ∧ ¬ ((mI P r u bf k).1.2.2 r k &&& bf = 0) then (sA (mI P r u bf k).1 7 k (nI u), (mI P r u bf k).2 ||| bitN k) else mI P r u bf k
def mG (n r : Nat) : Nat → Nat → RS × Int64 → RS
  | 0, _, P => P.1
  | k + 1, u, P => if (mI P r u P.2 n).2 = P.2 then (mI P r u P.2 n).1 else mG n r k (u + 1) (mI P r u P.2 n)
def measF (S : RS) (n r b : Nat) : RS := mG n r (n - 1) 1 (sA (fillF S 7 (-1)) 7 b (nI 0), bitN b)
set_option maxRecDepth 100000 in
set_option maxHeartbeats 4000000 in
theorem c_X0_measureSteps (l : Launch) {loc : Nat → Nat} {n : Nat} {g : Gc} (hn : n ≤ 40) {S0 : RS} {r b : Nat} (hr12 : r < 12) (hb : b < n) : MXv l yX0_measureSteps cX0_measureSteps 9 none (rmL 3 0 0) loc n g S0 [.int (nI r), .int (nI b)] (fun S' => S' = measF S0 n r b) := by
  refine o_enter (by decide) (Nat.le_of_ble_eq_true rfl) ?_
  intro p e s m below meth c ls S hr hlocks hC hl
  refine lv_aload_n S.1 S.2.1 dX0_measureSteps_0 rfl (lv_at hl 0 rfl) ?_
  refine x_get_steps S hC dX0_measureSteps_1 ?_
  refine lv_iconst (v := -1) S.1 S.2.1 dX0_measureSteps_4 rfl ?_
  refine x_fill S hC hn 7 (by decide) hl.1 (Nat.le_of_ble_eq_true rfl) ⟨(Nat.le_of_ble_eq_true rfl), (Nat.le_of_ble_eq_true rfl), (Nat.le_of_ble_eq_true rfl), (Nat.le_of_ble_eq_true rfl)⟩ dX0_measureSteps_5 (fun H locs hC => ?_)
  refine lv_aload_n S.1 S.2.1 dX0_measureSteps_8 rfl (lv_at hl 0 rfl) ?_
  refine x_get_steps S hC dX0_measureSteps_9 ?_
  refine lv_iload_n S.1 S.2.1 dX0_measureSteps_12 rfl (lv_at hl 2 rfl) ?_
  refine lv_iconst (v := nI 0) S.1 S.2.1 dX0_measureSteps_13 rfl ?_
  refine x_ist S hC hn 7 (by decide) hb dX0_measureSteps_14 (fun H locs hC => ?_)
  refine lv_iload_n S.1 S.2.1 dX0_measureSteps_15 rfl (lv_at hl 2 rfl) ?_
  refine s_calll S (c_X0_bit l (nI b)) cw_RX0_X0_bit ⟨rfl, rfl, by decide, by decide⟩ rfl hl.1 rfl (Nat.le_of_ble_eq_true rfl) dX0_measureSteps_16 ⟨(Nat.le_of_ble_eq_true rfl), (Nat.le_of_ble_eq_true rfl)⟩ (fun r16 hp => ?_)
  subst hp
  refine lv_lstore_n S.1 S.2.1 dX0_measureSteps_19 rfl hl (by decide) rfl (fun ls hl => ?_)
  refine lv_iconst (v := nI 1) S.1 S.2.1 dX0_measureSteps_20 rfl ?_
  refine lv_istore S.1 S.2.1 dX0_measureSteps_21 hl (by decide) rfl (fun ls hl => ?_)
  have loopO : ∀ (k u : Nat), n - u < k → u ≤ n → ∀ (P : RS × Int64) (hT : measF S0 n r b = mG n r (n - u) u P), ∀ (H : Heap) (locs : List Loc) (ls : Array Slot), CX loc n g (P.1) s H locs → lv_has ls 9 [(0, .ref (loc 0)), (1, .int (nI r)), (2, .int (nI b)), (3, .long P.2), (5, .int (nI u))] → W p l e (rmL 3 0 0) s m ([.ref (loc 0), .int (nI r), .int (nI b)] : List Value).toArray below meth c H locs 0 0 (MQ below (va_Qv (fun S' => S' = measF S0 n r b) (fun S' t => HX loc n g S' t.heap) (ZA loc 21)) ([.ref (loc 0), .int (nI r), .int (nI b)] : List Value).toArray s (rmL 3 0 0).cells (rmL 3 0 0).slots (ZA loc 21)) (F0 m 23 ls []) := by
    intro k
    induction k with
    | zero => intro u hk; omega
    | succ k ihO =>
      intro u hkO hiO P hT H locs ls hC hl
      refine lv_iload S.1 S.2.1 dX0_measureSteps_23 (lv_at hl 4 rfl) ?_
      refine lv_aload_n S.1 S.2.1 dX0_measureSteps_25 rfl (lv_at hl 0 rfl) ?_
      refine x_get_things S hC dX0_measureSteps_26 ?_
      refine n_icmp_ge (tgt := 114) S.1 S.2.1 dX0_measureSteps_29 (by decide) (by omega) (by omega) (fun c29 => ?_) (fun c29 => ?_)
      · skip
        exact o_vret S hr hlocks hC (by rw [hT, show n - u = 0 by omega, mG]) dX0_measureSteps_114 (Nat.le_of_ble_eq_true rfl) (Nat.le_of_ble_eq_true rfl)
      · skip
        refine lv_lload_n S.1 S.2.1 dX0_measureSteps_32 rfl (lv_at hl 3 rfl) ?_
        refine lv_lstore S.1 S.2.1 dX0_measureSteps_33 hl (by decide) rfl (fun ls hl => ?_)
        refine lv_iconst (v := nI 0) S.1 S.2.1 dX0_measureSteps_35 rfl ?_
        refine lv_istore S.1 S.2.1 dX0_measureSteps_36 hl (by decide) rfl (fun ls hl => ?_)
        have loop : ∀ (k i : Nat), n - i < k → i ≤ n → ∀ (H : Heap) (locs : List Loc) (ls : Array Slot), CX loc n g ((mI P r u P.2 i).1) s H locs → lv_has ls 9 [(0, .ref (loc 0)), (1, .int (nI r)), (2, .int (nI b)), (3, .long (mI P r u P.2 i).2), (5, .int (nI u)), (6, .long P.2), (8, .int (nI i))] → W p l e (rmL 3 0 0) s m ([.ref (loc 0), .int (nI r), .int (nI b)] : List Value).toArray below meth c H locs 0 0 (MQ below (va_Qv (fun S' => S' = measF S0 n r b) (fun S' t => HX loc n g S' t.heap) (ZA loc 21)) ([.ref (loc 0), .int (nI r), .int (nI b)] : List Value).toArray s (rmL 3 0 0).cells (rmL 3 0 0).slots (ZA loc 21)) (F0 m 38 ls []) := by
          intro k
          induction k with
          | zero => intro i hk; omega
          | succ k ih =>
            intro i hk hi  H locs ls hC hl
            refine lv_iload S.1 S.2.1 dX0_measureSteps_38 (lv_at hl 6 rfl) ?_
            refine lv_aload_n S.1 S.2.1 dX0_measureSteps_40 rfl (lv_at hl 0 rfl) ?_
            refine x_get_things S hC dX0_measureSteps_41 ?_
            refine n_icmp_ge (tgt := 98) S.1 S.2.1 dX0_measureSteps_44 (by decide) (by omega) (by omega) (fun c44 => ?_) (fun c44 => ?_)
            · skip
              refine lv_lload_n S.1 S.2.1 dX0_measureSteps_98 rfl (lv_at hl 3 rfl) ?_
              refine lv_lload S.1 S.2.1 dX0_measureSteps_99 (lv_at hl 5 rfl) ?_
              refine W.lcmp S.1 S.2.1 dX0_measureSteps_101 ?_
              refine lv_if_ne (tgt := 108) S.1 S.2.1 dX0_measureSteps_102 (by decide) (fun c102 => ?_) (fun c102 => ?_)
              · skip
                refine lv_iinc (k := 4) S.1 S.2.1 dX0_measureSteps_108 hl rfl (n_inc _) (by decide) rfl (fun ls hl => ?_)
                refine lv_goto (tgt := 23) S.1 S.2.1 dX0_measureSteps_111 (by decide) ?_
                rw [show i = n by omega] at hC hl c102
                exact ihO (u + 1) (by omega) (by omega) (mI P r u P.2 n) (by rw [hT, show n - u = (n - (u + 1)) + 1 by omega, mG, if_neg (fun q => c102 ((lg_cmp_eq _ _).mpr q))]) _ _ _ hC (lv_sub hl [1, 2, 3, 4, 0] rfl)
              · skip
                refine lv_goto (tgt := 114) S.1 S.2.1 dX0_measureSteps_105 (by decide) ?_
                exact o_vret S hr hlocks hC (by rw [hT, show n - u = (n - (u + 1)) + 1 by omega, mG, if_pos (by rw [show n = i by omega]; exact (lg_cmp_eq _ _).mp c102), show n = i by omega]) dX0_measureSteps_114 (Nat.le_of_ble_eq_true rfl) (Nat.le_of_ble_eq_true rfl)
            · skip
              refine lv_aload_n S.1 S.2.1 dX0_measureSteps_47 rfl (lv_at hl 0 rfl) ?_
              refine x_get_steps S hC dX0_measureSteps_48 ?_
              refine lv_iload S.1 S.2.1 dX0_measureSteps_51 (lv_at hl 6 rfl) ?_
              refine x_ild S hC hn 7 (by decide) (show i < n by omega) dX0_measureSteps_53 ?_
              refine lv_iconst (v := -1) S.1 S.2.1 dX0_measureSteps_54 rfl ?_
              refine lv_icmp_ne (tgt := 92) S.1 S.2.1 dX0_measureSteps_55 (by decide) (fun c55 => ?_) (fun c55 => ?_)
              · skip
                refine lv_iinc (k := 6) S.1 S.2.1 dX0_measureSteps_92 hl rfl (n_inc _) (by decide) rfl (fun ls hl => ?_)
                refine lv_goto (tgt := 38) S.1 S.2.1 dX0_measureSteps_95 (by decide) ?_
                exact ih (i + 1) (by omega) (by omega) _ _ _ (by rw [mI, if_neg (fun q => c55 q.1)]; exact hC) (by rw [mI, if_neg (fun q => c55 q.1)]; exact lv_sub hl [1, 2, 3, 4, 5, 6, 0] rfl)
              · skip
                refine lv_aload_n S.1 S.2.1 dX0_measureSteps_58 rfl (lv_at hl 0 rfl) ?_
                refine x_get_rows S hC dX0_measureSteps_59 ?_
                refine lv_iload_n S.1 S.2.1 dX0_measureSteps_62 rfl (lv_at hl 1 rfl) ?_
                refine x_aald S hC hr12 dX0_measureSteps_63 ?_
                refine lv_iload S.1 S.2.1 dX0_measureSteps_64 (lv_at hl 6 rfl) ?_
                refine x_lld S hC hn hr12 (show i < n by omega) dX0_measureSteps_66 ?_
                refine lv_lload S.1 S.2.1 dX0_measureSteps_67 (lv_at hl 5 rfl) ?_
                refine lv_land S.1 S.2.1 dX0_measureSteps_69 ?_
                refine lv_lconst (v := 0) S.1 S.2.1 dX0_measureSteps_70 rfl ?_
                refine W.lcmp S.1 S.2.1 dX0_measureSteps_71 ?_
                refine lv_if_eq (tgt := 92) S.1 S.2.1 dX0_measureSteps_72 (by decide) (fun c72 => ?_) (fun c72 => ?_)
                · skip
                  refine lv_iinc (k := 6) S.1 S.2.1 dX0_measureSteps_92 hl rfl (n_inc _) (by decide) rfl (fun ls hl => ?_)
                  refine lv_goto (tgt := 38) S.1 S.2.1 dX0_measureSteps_95 (by decide) ?_
                  exact ih (i + 1) (by omega) (by omega) _ _ _ (by rw [mI, if_neg (fun q => q.2 ((lg_cmp_eq _ _).mp c72))]; exact hC) (by rw [mI, if_neg (fun q => q.2 ((lg_cmp_eq _ _).mp c72))]; exact lv_sub hl [1, 2, 3, 4, 5, 6, 0] rfl)
                · skip
                  refine lv_aload_n S.1 S.2.1 dX0_measureSteps_75 rfl (lv_at hl 0 rfl) ?_
                  refine x_get_steps S hC dX0_measureSteps_76 ?_
                  refine lv_iload S.1 S.2.1 dX0_measureSteps_79 (lv_at hl 6 rfl) ?_
                  refine lv_iload S.1 S.2.1 dX0_measureSteps_81 (lv_at hl 4 rfl) ?_
                  refine x_ist S hC hn 7 (by decide) (show i < n by omega) dX0_measureSteps_83 (fun H locs hC => ?_)
                  refine lv_lload_n S.1 S.2.1 dX0_measureSteps_84 rfl (lv_at hl 3 rfl) ?_
                  refine lv_iload S.1 S.2.1 dX0_measureSteps_85 (lv_at hl 6 rfl) ?_
                  refine s_calll S (c_X0_bit l (nI i)) cw_RX0_X0_bit ⟨rfl, rfl, by decide, by decide⟩ rfl hl.1 rfl (Nat.le_of_ble_eq_true rfl) dX0_measureSteps_87 ⟨(Nat.le_of_ble_eq_true rfl), (Nat.le_of_ble_eq_true rfl)⟩ (fun r87 hp => ?_)
                  subst hp
                  refine lv_lor S.1 S.2.1 dX0_measureSteps_90 ?_
                  refine lv_lstore_n S.1 S.2.1 dX0_measureSteps_91 rfl hl (by decide) rfl (fun ls hl => ?_)
                  refine lv_iinc (k := 6) S.1 S.2.1 dX0_measureSteps_92 hl rfl (n_inc _) (by decide) rfl (fun ls hl => ?_)
                  refine lv_goto (tgt := 38) S.1 S.2.1 dX0_measureSteps_95 (by decide) ?_
                  exact ih (i + 1) (by omega) (by omega) _ _ _ (by rw [mI, if_pos ⟨c55, fun q => c72 ((lg_cmp_eq _ _).mpr q)⟩]; exact hC) (by rw [mI, if_pos ⟨c55, fun q => c72 ((lg_cmp_eq _ _).mpr q)⟩]; exact lv_sub hl [2, 3, 4, 1, 5, 6, 0] rfl)
        exact loop (n + 1) 0 (by omega) (by omega) _ _ _ hC (lv_sub hl [2, 3, 4, 5, 6, 1, 0] rfl)
  exact loopO (n + 1) 1 (by omega) (by omega) (sA (fillF S0 7 (-1)) 7 b (nI 0), bitN b) rfl _ _ _ hC (lv_sub hl [2, 3, 4, 1, 0] rfl)
end
section
def ushI (x y : Int32) : Int32 := (x.toUInt32 >>> (y.toUInt32 &&& Int32.toUInt32 31)).toInt32
def ushL (x : Int64) (y : Int32) : Int64 := (x.toUInt64 >>> (y.toInt64.toUInt64 &&& Int64.toUInt64 63)).toInt64
theorem ushI_eq (x y : Int32) : (x.toUInt32 >>> (y.toUInt32 &&& Int32.toUInt32 31)).toInt32 = ushI x y := rfl
theorem ushL_eq (x : Int64) (y : Int32) : (x.toUInt64 >>> (y.toInt64.toUInt64 &&& Int64.toUInt64 63)).toInt64 = ushL x y := rfl
theorem inc_16 (x : Int32) : x + Int32.ofInt 16 = x + 16 := rfl
theorem inc_8 (x : Int32) : x + Int32.ofInt 8 = x + 8 := rfl
theorem inc_4 (x : Int32) : x + Int32.ofInt 4 = x + 4 := rfl
theorem inc_2 (x : Int32) : x + Int32.ofInt 2 = x + 2 := rfl
def nt1 (q : Int32 × Int32) (b k : Int32) : Int32 × Int32 := if q.2 ≤ b then q else (q.1 + k, ushI q.2 k)
def ntzM (v : Int32) : Int32 := if 0 < v then (nt1 (nt1 (nt1 (nt1 (1, v) 65536 16) 256 8) 16 4) 4 2).1 + ushI (nt1 (nt1 (nt1 (nt1 (1, v) 65536 16) 256 8) 16 4) 4 2).2 1 else v &&& 32
def ntzI (x : Int32) : Int32 := ntzM ((x ^^^ (-1)) &&& (x - 1))
def pop1 (v : Int64) : Int64 := v - (ushL v 1 &&& 6148914691236517205)
def pop2 (v : Int64) : Int64 := (v &&& 3689348814741910323) + (ushL v 2 &&& 3689348814741910323)
def pop3 (v : Int64) : Int64 := (v + ushL v 4) &&& 1085102592571150095
def popA (v : Int64) (k : Int32) : Int64 := v + ushL v k
def popL (v : Int64) : Int32 := (popA (popA (popA (pop3 (pop2 (pop1 v))) 8) 16) 32).toInt32 &&& 127
def ntzL (v : Int64) : Int32 := if v.toInt32 = 0 then 32 + ntzI (ushL v 32).toInt32 else ntzI v.toInt32
set_option maxRecDepth 100000 in
set_option maxHeartbeats 4000000 in
theorem c_J6_numberOfTrailingZeros_0f7a4 (l : Launch) (x : Int32) : MSi l yJ6_numberOfTrailingZeros_0f7a4 cJ6_numberOfTrailingZeros_0f7a4 2 (some .int) (rmL 1 0 0) [.int x] (fun r => r = ntzI x) := by
  refine s_enter (by decide) (Nat.le_of_ble_eq_true rfl) ?_
  intro p e s m below meth c ls S hr hlocks hl
  refine lv_iload_n S.1 S.2.1 dJ6_numberOfTrailingZeros_0f7a4_0 rfl (lv_at hl 0 rfl) ?_
  refine lv_iconst (v := (-1)) S.1 S.2.1 dJ6_numberOfTrailingZeros_0f7a4_1 rfl ?_
  refine lv_ixor S.1 S.2.1 dJ6_numberOfTrailingZeros_0f7a4_2 ?_
  refine lv_iload_n S.1 S.2.1 dJ6_numberOfTrailingZeros_0f7a4_3 rfl (lv_at hl 0 rfl) ?_
  refine lv_iconst (v := (1)) S.1 S.2.1 dJ6_numberOfTrailingZeros_0f7a4_4 rfl ?_
  refine lv_isub S.1 S.2.1 dJ6_numberOfTrailingZeros_0f7a4_5 ?_
  refine lv_iand S.1 S.2.1 dJ6_numberOfTrailingZeros_0f7a4_6 ?_
  refine lv_istore_n S.1 S.2.1 dJ6_numberOfTrailingZeros_0f7a4_7 rfl hl (by decide) rfl (fun ls hl => ?_)
  refine lv_iload_n S.1 S.2.1 dJ6_numberOfTrailingZeros_0f7a4_8 rfl (lv_at hl 0 rfl) ?_
  refine lv_if_gt (tgt := 17) S.1 S.2.1 dJ6_numberOfTrailingZeros_0f7a4_9 (by decide) (fun c9 => ?_) (fun c9 => ?_)
  · skip
    refine lv_iconst (v := (1)) S.1 S.2.1 dJ6_numberOfTrailingZeros_0f7a4_17 rfl ?_
    refine lv_istore_n S.1 S.2.1 dJ6_numberOfTrailingZeros_0f7a4_18 rfl hl (by decide) rfl (fun ls hl => ?_)
    refine lv_iload_n S.1 S.2.1 dJ6_numberOfTrailingZeros_0f7a4_19 rfl (lv_at hl 1 rfl) ?_
    refine lv_ldcw S.1 S.2.1 S.2.2.2.1 (S.2.2.2.2 _ w_179) dJ6_numberOfTrailingZeros_0f7a4_20 ?_
    refine lv_icmp_le (tgt := 34) S.1 S.2.1 dJ6_numberOfTrailingZeros_0f7a4_23 (by decide) (fun c23 => ?_) (fun c23 => ?_)
    · skip
      refine lv_iload_n S.1 S.2.1 dJ6_numberOfTrailingZeros_0f7a4_34 rfl (lv_at hl 1 rfl) ?_
      refine lv_sipush (v := (256)) S.1 S.2.1 dJ6_numberOfTrailingZeros_0f7a4_35 rfl ?_
      refine lv_icmp_le (tgt := 49) S.1 S.2.1 dJ6_numberOfTrailingZeros_0f7a4_38 (by decide) (fun c38 => ?_) (fun c38 => ?_)
      · skip
        refine lv_iload_n S.1 S.2.1 dJ6_numberOfTrailingZeros_0f7a4_49 rfl (lv_at hl 1 rfl) ?_
        refine lv_bipush (v := (16)) S.1 S.2.1 dJ6_numberOfTrailingZeros_0f7a4_50 rfl ?_
        refine lv_icmp_le (tgt := 62) S.1 S.2.1 dJ6_numberOfTrailingZeros_0f7a4_52 (by decide) (fun c52 => ?_) (fun c52 => ?_)
        · skip
          refine lv_iload_n S.1 S.2.1 dJ6_numberOfTrailingZeros_0f7a4_62 rfl (lv_at hl 1 rfl) ?_
          refine lv_iconst (v := (4)) S.1 S.2.1 dJ6_numberOfTrailingZeros_0f7a4_63 rfl ?_
          refine lv_icmp_le (tgt := 74) S.1 S.2.1 dJ6_numberOfTrailingZeros_0f7a4_64 (by decide) (fun c64 => ?_) (fun c64 => ?_)
          · skip
            refine lv_iload_n S.1 S.2.1 dJ6_numberOfTrailingZeros_0f7a4_74 rfl (lv_at hl 0 rfl) ?_
            refine lv_iload_n S.1 S.2.1 dJ6_numberOfTrailingZeros_0f7a4_75 rfl (lv_at hl 1 rfl) ?_
            refine lv_iconst (v := (1)) S.1 S.2.1 dJ6_numberOfTrailingZeros_0f7a4_76 rfl ?_
            refine lv_iushr S.1 S.2.1 dJ6_numberOfTrailingZeros_0f7a4_77 (ushI_eq _ _) ?_
            refine lv_iadd S.1 S.2.1 dJ6_numberOfTrailingZeros_0f7a4_78 ?_
            exact s_iret S hr hlocks (by simp only [ntzI, ntzM, if_pos c9, nt1, if_pos c23, if_pos c38, if_pos c52, if_pos c64]) rfl dJ6_numberOfTrailingZeros_0f7a4_79
          · skip
            refine lv_iinc (k := 0) S.1 S.2.1 dJ6_numberOfTrailingZeros_0f7a4_67 hl rfl (inc_2 _) (by decide) rfl (fun ls hl => ?_)
            refine lv_iload_n S.1 S.2.1 dJ6_numberOfTrailingZeros_0f7a4_70 rfl (lv_at hl 1 rfl) ?_
            refine lv_iconst (v := (2)) S.1 S.2.1 dJ6_numberOfTrailingZeros_0f7a4_71 rfl ?_
            refine lv_iushr S.1 S.2.1 dJ6_numberOfTrailingZeros_0f7a4_72 (ushI_eq _ _) ?_
            refine lv_istore_n S.1 S.2.1 dJ6_numberOfTrailingZeros_0f7a4_73 rfl hl (by decide) rfl (fun ls hl => ?_)
            refine lv_iload_n S.1 S.2.1 dJ6_numberOfTrailingZeros_0f7a4_74 rfl (lv_at hl 1 rfl) ?_
            refine lv_iload_n S.1 S.2.1 dJ6_numberOfTrailingZeros_0f7a4_75 rfl (lv_at hl 0 rfl) ?_
            refine lv_iconst (v := (1)) S.1 S.2.1 dJ6_numberOfTrailingZeros_0f7a4_76 rfl ?_
            refine lv_iushr S.1 S.2.1 dJ6_numberOfTrailingZeros_0f7a4_77 (ushI_eq _ _) ?_
            refine lv_iadd S.1 S.2.1 dJ6_numberOfTrailingZeros_0f7a4_78 ?_
            exact s_iret S hr hlocks (by simp only [ntzI, ntzM, if_pos c9, nt1, if_pos c23, if_pos c38, if_pos c52, if_neg c64]) rfl dJ6_numberOfTrailingZeros_0f7a4_79
        · skip
          refine lv_iinc (k := 0) S.1 S.2.1 dJ6_numberOfTrailingZeros_0f7a4_55 hl rfl (inc_4 _) (by decide) rfl (fun ls hl => ?_)
          refine lv_iload_n S.1 S.2.1 dJ6_numberOfTrailingZeros_0f7a4_58 rfl (lv_at hl 1 rfl) ?_
          refine lv_iconst (v := (4)) S.1 S.2.1 dJ6_numberOfTrailingZeros_0f7a4_59 rfl ?_
          refine lv_iushr S.1 S.2.1 dJ6_numberOfTrailingZeros_0f7a4_60 (ushI_eq _ _) ?_
          refine lv_istore_n S.1 S.2.1 dJ6_numberOfTrailingZeros_0f7a4_61 rfl hl (by decide) rfl (fun ls hl => ?_)
          refine lv_iload_n S.1 S.2.1 dJ6_numberOfTrailingZeros_0f7a4_62 rfl (lv_at hl 0 rfl) ?_
          refine lv_iconst (v := (4)) S.1 S.2.1 dJ6_numberOfTrailingZeros_0f7a4_63 rfl ?_
          refine lv_icmp_le (tgt := 74) S.1 S.2.1 dJ6_numberOfTrailingZeros_0f7a4_64 (by decide) (fun c64 => ?_) (fun c64 => ?_)
          · skip
            refine lv_iload_n S.1 S.2.1 dJ6_numberOfTrailingZeros_0f7a4_74 rfl (lv_at hl 1 rfl) ?_
            refine lv_iload_n S.1 S.2.1 dJ6_numberOfTrailingZeros_0f7a4_75 rfl (lv_at hl 0 rfl) ?_
            refine lv_iconst (v := (1)) S.1 S.2.1 dJ6_numberOfTrailingZeros_0f7a4_76 rfl ?_
            refine lv_iushr S.1 S.2.1 dJ6_numberOfTrailingZeros_0f7a4_77 (ushI_eq _ _) ?_
            refine lv_iadd S.1 S.2.1 dJ6_numberOfTrailingZeros_0f7a4_78 ?_
            exact s_iret S hr hlocks (by simp only [ntzI, ntzM, if_pos c9, nt1, if_pos c23, if_pos c38, if_neg c52, if_pos c64]) rfl dJ6_numberOfTrailingZeros_0f7a4_79
          · skip
            refine lv_iinc (k := 1) S.1 S.2.1 dJ6_numberOfTrailingZeros_0f7a4_67 hl rfl (inc_2 _) (by decide) rfl (fun ls hl => ?_)
            refine lv_iload_n S.1 S.2.1 dJ6_numberOfTrailingZeros_0f7a4_70 rfl (lv_at hl 1 rfl) ?_
            refine lv_iconst (v := (2)) S.1 S.2.1 dJ6_numberOfTrailingZeros_0f7a4_71 rfl ?_
            refine lv_iushr S.1 S.2.1 dJ6_numberOfTrailingZeros_0f7a4_72 (ushI_eq _ _) ?_
            refine lv_istore_n S.1 S.2.1 dJ6_numberOfTrailingZeros_0f7a4_73 rfl hl (by decide) rfl (fun ls hl => ?_)
            refine lv_iload_n S.1 S.2.1 dJ6_numberOfTrailingZeros_0f7a4_74 rfl (lv_at hl 1 rfl) ?_
            refine lv_iload_n S.1 S.2.1 dJ6_numberOfTrailingZeros_0f7a4_75 rfl (lv_at hl 0 rfl) ?_
            refine lv_iconst (v := (1)) S.1 S.2.1 dJ6_numberOfTrailingZeros_0f7a4_76 rfl ?_
            refine lv_iushr S.1 S.2.1 dJ6_numberOfTrailingZeros_0f7a4_77 (ushI_eq _ _) ?_
            refine lv_iadd S.1 S.2.1 dJ6_numberOfTrailingZeros_0f7a4_78 ?_
            exact s_iret S hr hlocks (by simp only [ntzI, ntzM, if_pos c9, nt1, if_pos c23, if_pos c38, if_neg c52, if_neg c64]) rfl dJ6_numberOfTrailingZeros_0f7a4_79
      · skip
        refine lv_iinc (k := 0) S.1 S.2.1 dJ6_numberOfTrailingZeros_0f7a4_41 hl rfl (inc_8 _) (by decide) rfl (fun ls hl => ?_)
        refine lv_iload_n S.1 S.2.1 dJ6_numberOfTrailingZeros_0f7a4_44 rfl (lv_at hl 1 rfl) ?_
        refine lv_bipush (v := (8)) S.1 S.2.1 dJ6_numberOfTrailingZeros_0f7a4_45 rfl ?_
        refine lv_iushr S.1 S.2.1 dJ6_numberOfTrailingZeros_0f7a4_47 (ushI_eq _ _) ?_
        refine lv_istore_n S.1 S.2.1 dJ6_numberOfTrailingZeros_0f7a4_48 rfl hl (by decide) rfl (fun ls hl => ?_)
        refine lv_iload_n S.1 S.2.1 dJ6_numberOfTrailingZeros_0f7a4_49 rfl (lv_at hl 0 rfl) ?_
        refine lv_bipush (v := (16)) S.1 S.2.1 dJ6_numberOfTrailingZeros_0f7a4_50 rfl ?_
        refine lv_icmp_le (tgt := 62) S.1 S.2.1 dJ6_numberOfTrailingZeros_0f7a4_52 (by decide) (fun c52 => ?_) (fun c52 => ?_)
        · skip
          refine lv_iload_n S.1 S.2.1 dJ6_numberOfTrailingZeros_0f7a4_62 rfl (lv_at hl 0 rfl) ?_
          refine lv_iconst (v := (4)) S.1 S.2.1 dJ6_numberOfTrailingZeros_0f7a4_63 rfl ?_
          refine lv_icmp_le (tgt := 74) S.1 S.2.1 dJ6_numberOfTrailingZeros_0f7a4_64 (by decide) (fun c64 => ?_) (fun c64 => ?_)
          · skip
            refine lv_iload_n S.1 S.2.1 dJ6_numberOfTrailingZeros_0f7a4_74 rfl (lv_at hl 1 rfl) ?_
            refine lv_iload_n S.1 S.2.1 dJ6_numberOfTrailingZeros_0f7a4_75 rfl (lv_at hl 0 rfl) ?_
            refine lv_iconst (v := (1)) S.1 S.2.1 dJ6_numberOfTrailingZeros_0f7a4_76 rfl ?_
            refine lv_iushr S.1 S.2.1 dJ6_numberOfTrailingZeros_0f7a4_77 (ushI_eq _ _) ?_
            refine lv_iadd S.1 S.2.1 dJ6_numberOfTrailingZeros_0f7a4_78 ?_
            exact s_iret S hr hlocks (by simp only [ntzI, ntzM, if_pos c9, nt1, if_pos c23, if_neg c38, if_pos c52, if_pos c64]) rfl dJ6_numberOfTrailingZeros_0f7a4_79
          · skip
            refine lv_iinc (k := 1) S.1 S.2.1 dJ6_numberOfTrailingZeros_0f7a4_67 hl rfl (inc_2 _) (by decide) rfl (fun ls hl => ?_)
            refine lv_iload_n S.1 S.2.1 dJ6_numberOfTrailingZeros_0f7a4_70 rfl (lv_at hl 1 rfl) ?_
            refine lv_iconst (v := (2)) S.1 S.2.1 dJ6_numberOfTrailingZeros_0f7a4_71 rfl ?_
            refine lv_iushr S.1 S.2.1 dJ6_numberOfTrailingZeros_0f7a4_72 (ushI_eq _ _) ?_
            refine lv_istore_n S.1 S.2.1 dJ6_numberOfTrailingZeros_0f7a4_73 rfl hl (by decide) rfl (fun ls hl => ?_)
            refine lv_iload_n S.1 S.2.1 dJ6_numberOfTrailingZeros_0f7a4_74 rfl (lv_at hl 1 rfl) ?_
            refine lv_iload_n S.1 S.2.1 dJ6_numberOfTrailingZeros_0f7a4_75 rfl (lv_at hl 0 rfl) ?_
            refine lv_iconst (v := (1)) S.1 S.2.1 dJ6_numberOfTrailingZeros_0f7a4_76 rfl ?_
            refine lv_iushr S.1 S.2.1 dJ6_numberOfTrailingZeros_0f7a4_77 (ushI_eq _ _) ?_
            refine lv_iadd S.1 S.2.1 dJ6_numberOfTrailingZeros_0f7a4_78 ?_
            exact s_iret S hr hlocks (by simp only [ntzI, ntzM, if_pos c9, nt1, if_pos c23, if_neg c38, if_pos c52, if_neg c64]) rfl dJ6_numberOfTrailingZeros_0f7a4_79
        · skip
          refine lv_iinc (k := 1) S.1 S.2.1 dJ6_numberOfTrailingZeros_0f7a4_55 hl rfl (inc_4 _) (by decide) rfl (fun ls hl => ?_)
          refine lv_iload_n S.1 S.2.1 dJ6_numberOfTrailingZeros_0f7a4_58 rfl (lv_at hl 1 rfl) ?_
          refine lv_iconst (v := (4)) S.1 S.2.1 dJ6_numberOfTrailingZeros_0f7a4_59 rfl ?_
          refine lv_iushr S.1 S.2.1 dJ6_numberOfTrailingZeros_0f7a4_60 (ushI_eq _ _) ?_
          refine lv_istore_n S.1 S.2.1 dJ6_numberOfTrailingZeros_0f7a4_61 rfl hl (by decide) rfl (fun ls hl => ?_)
          refine lv_iload_n S.1 S.2.1 dJ6_numberOfTrailingZeros_0f7a4_62 rfl (lv_at hl 0 rfl) ?_
          refine lv_iconst (v := (4)) S.1 S.2.1 dJ6_numberOfTrailingZeros_0f7a4_63 rfl ?_
          refine lv_icmp_le (tgt := 74) S.1 S.2.1 dJ6_numberOfTrailingZeros_0f7a4_64 (by decide) (fun c64 => ?_) (fun c64 => ?_)
          · skip
            refine lv_iload_n S.1 S.2.1 dJ6_numberOfTrailingZeros_0f7a4_74 rfl (lv_at hl 1 rfl) ?_
            refine lv_iload_n S.1 S.2.1 dJ6_numberOfTrailingZeros_0f7a4_75 rfl (lv_at hl 0 rfl) ?_
            refine lv_iconst (v := (1)) S.1 S.2.1 dJ6_numberOfTrailingZeros_0f7a4_76 rfl ?_
            refine lv_iushr S.1 S.2.1 dJ6_numberOfTrailingZeros_0f7a4_77 (ushI_eq _ _) ?_
            refine lv_iadd S.1 S.2.1 dJ6_numberOfTrailingZeros_0f7a4_78 ?_
            exact s_iret S hr hlocks (by simp only [ntzI, ntzM, if_pos c9, nt1, if_pos c23, if_neg c38, if_neg c52, if_pos c64]) rfl dJ6_numberOfTrailingZeros_0f7a4_79
          · skip
            refine lv_iinc (k := 1) S.1 S.2.1 dJ6_numberOfTrailingZeros_0f7a4_67 hl rfl (inc_2 _) (by decide) rfl (fun ls hl => ?_)
            refine lv_iload_n S.1 S.2.1 dJ6_numberOfTrailingZeros_0f7a4_70 rfl (lv_at hl 1 rfl) ?_
            refine lv_iconst (v := (2)) S.1 S.2.1 dJ6_numberOfTrailingZeros_0f7a4_71 rfl ?_
            refine lv_iushr S.1 S.2.1 dJ6_numberOfTrailingZeros_0f7a4_72 (ushI_eq _ _) ?_
            refine lv_istore_n S.1 S.2.1 dJ6_numberOfTrailingZeros_0f7a4_73 rfl hl (by decide) rfl (fun ls hl => ?_)
            refine lv_iload_n S.1 S.2.1 dJ6_numberOfTrailingZeros_0f7a4_74 rfl (lv_at hl 1 rfl) ?_
            refine lv_iload_n S.1 S.2.1 dJ6_numberOfTrailingZeros_0f7a4_75 rfl (lv_at hl 0 rfl) ?_
            refine lv_iconst (v := (1)) S.1 S.2.1 dJ6_numberOfTrailingZeros_0f7a4_76 rfl ?_
            refine lv_iushr S.1 S.2.1 dJ6_numberOfTrailingZeros_0f7a4_77 (ushI_eq _ _) ?_
            refine lv_iadd S.1 S.2.1 dJ6_numberOfTrailingZeros_0f7a4_78 ?_
            exact s_iret S hr hlocks (by simp only [ntzI, ntzM, if_pos c9, nt1, if_pos c23, if_neg c38, if_neg c52, if_neg c64]) rfl dJ6_numberOfTrailingZeros_0f7a4_79
    · skip
      refine lv_iinc (k := 0) S.1 S.2.1 dJ6_numberOfTrailingZeros_0f7a4_26 hl rfl (inc_16 _) (by decide) rfl (fun ls hl => ?_)
      refine lv_iload_n S.1 S.2.1 dJ6_numberOfTrailingZeros_0f7a4_29 rfl (lv_at hl 1 rfl) ?_
      refine lv_bipush (v := (16)) S.1 S.2.1 dJ6_numberOfTrailingZeros_0f7a4_30 rfl ?_
      refine lv_iushr S.1 S.2.1 dJ6_numberOfTrailingZeros_0f7a4_32 (ushI_eq _ _) ?_
      refine lv_istore_n S.1 S.2.1 dJ6_numberOfTrailingZeros_0f7a4_33 rfl hl (by decide) rfl (fun ls hl => ?_)
      refine lv_iload_n S.1 S.2.1 dJ6_numberOfTrailingZeros_0f7a4_34 rfl (lv_at hl 0 rfl) ?_
      refine lv_sipush (v := (256)) S.1 S.2.1 dJ6_numberOfTrailingZeros_0f7a4_35 rfl ?_
      refine lv_icmp_le (tgt := 49) S.1 S.2.1 dJ6_numberOfTrailingZeros_0f7a4_38 (by decide) (fun c38 => ?_) (fun c38 => ?_)
      · skip
        refine lv_iload_n S.1 S.2.1 dJ6_numberOfTrailingZeros_0f7a4_49 rfl (lv_at hl 0 rfl) ?_
        refine lv_bipush (v := (16)) S.1 S.2.1 dJ6_numberOfTrailingZeros_0f7a4_50 rfl ?_
        refine lv_icmp_le (tgt := 62) S.1 S.2.1 dJ6_numberOfTrailingZeros_0f7a4_52 (by decide) (fun c52 => ?_) (fun c52 => ?_)
        · skip
          refine lv_iload_n S.1 S.2.1 dJ6_numberOfTrailingZeros_0f7a4_62 rfl (lv_at hl 0 rfl) ?_
          refine lv_iconst (v := (4)) S.1 S.2.1 dJ6_numberOfTrailingZeros_0f7a4_63 rfl ?_
          refine lv_icmp_le (tgt := 74) S.1 S.2.1 dJ6_numberOfTrailingZeros_0f7a4_64 (by decide) (fun c64 => ?_) (fun c64 => ?_)
          · skip
            refine lv_iload_n S.1 S.2.1 dJ6_numberOfTrailingZeros_0f7a4_74 rfl (lv_at hl 1 rfl) ?_
            refine lv_iload_n S.1 S.2.1 dJ6_numberOfTrailingZeros_0f7a4_75 rfl (lv_at hl 0 rfl) ?_
            refine lv_iconst (v := (1)) S.1 S.2.1 dJ6_numberOfTrailingZeros_0f7a4_76 rfl ?_
            refine lv_iushr S.1 S.2.1 dJ6_numberOfTrailingZeros_0f7a4_77 (ushI_eq _ _) ?_
            refine lv_iadd S.1 S.2.1 dJ6_numberOfTrailingZeros_0f7a4_78 ?_
            exact s_iret S hr hlocks (by simp only [ntzI, ntzM, if_pos c9, nt1, if_neg c23, if_pos c38, if_pos c52, if_pos c64]) rfl dJ6_numberOfTrailingZeros_0f7a4_79
          · skip
            refine lv_iinc (k := 1) S.1 S.2.1 dJ6_numberOfTrailingZeros_0f7a4_67 hl rfl (inc_2 _) (by decide) rfl (fun ls hl => ?_)
            refine lv_iload_n S.1 S.2.1 dJ6_numberOfTrailingZeros_0f7a4_70 rfl (lv_at hl 1 rfl) ?_
            refine lv_iconst (v := (2)) S.1 S.2.1 dJ6_numberOfTrailingZeros_0f7a4_71 rfl ?_
            refine lv_iushr S.1 S.2.1 dJ6_numberOfTrailingZeros_0f7a4_72 (ushI_eq _ _) ?_
            refine lv_istore_n S.1 S.2.1 dJ6_numberOfTrailingZeros_0f7a4_73 rfl hl (by decide) rfl (fun ls hl => ?_)
            refine lv_iload_n S.1 S.2.1 dJ6_numberOfTrailingZeros_0f7a4_74 rfl (lv_at hl 1 rfl) ?_
            refine lv_iload_n S.1 S.2.1 dJ6_numberOfTrailingZeros_0f7a4_75 rfl (lv_at hl 0 rfl) ?_
            refine lv_iconst (v := (1)) S.1 S.2.1 dJ6_numberOfTrailingZeros_0f7a4_76 rfl ?_
            refine lv_iushr S.1 S.2.1 dJ6_numberOfTrailingZeros_0f7a4_77 (ushI_eq _ _) ?_
            refine lv_iadd S.1 S.2.1 dJ6_numberOfTrailingZeros_0f7a4_78 ?_
            exact s_iret S hr hlocks (by simp only [ntzI, ntzM, if_pos c9, nt1, if_neg c23, if_pos c38, if_pos c52, if_neg c64]) rfl dJ6_numberOfTrailingZeros_0f7a4_79
        · skip
          refine lv_iinc (k := 1) S.1 S.2.1 dJ6_numberOfTrailingZeros_0f7a4_55 hl rfl (inc_4 _) (by decide) rfl (fun ls hl => ?_)
          refine lv_iload_n S.1 S.2.1 dJ6_numberOfTrailingZeros_0f7a4_58 rfl (lv_at hl 1 rfl) ?_
          refine lv_iconst (v := (4)) S.1 S.2.1 dJ6_numberOfTrailingZeros_0f7a4_59 rfl ?_
          refine lv_iushr S.1 S.2.1 dJ6_numberOfTrailingZeros_0f7a4_60 (ushI_eq _ _) ?_
          refine lv_istore_n S.1 S.2.1 dJ6_numberOfTrailingZeros_0f7a4_61 rfl hl (by decide) rfl (fun ls hl => ?_)
          refine lv_iload_n S.1 S.2.1 dJ6_numberOfTrailingZeros_0f7a4_62 rfl (lv_at hl 0 rfl) ?_
          refine lv_iconst (v := (4)) S.1 S.2.1 dJ6_numberOfTrailingZeros_0f7a4_63 rfl ?_
          refine lv_icmp_le (tgt := 74) S.1 S.2.1 dJ6_numberOfTrailingZeros_0f7a4_64 (by decide) (fun c64 => ?_) (fun c64 => ?_)
          · skip
            refine lv_iload_n S.1 S.2.1 dJ6_numberOfTrailingZeros_0f7a4_74 rfl (lv_at hl 1 rfl) ?_
            refine lv_iload_n S.1 S.2.1 dJ6_numberOfTrailingZeros_0f7a4_75 rfl (lv_at hl 0 rfl) ?_
            refine lv_iconst (v := (1)) S.1 S.2.1 dJ6_numberOfTrailingZeros_0f7a4_76 rfl ?_
            refine lv_iushr S.1 S.2.1 dJ6_numberOfTrailingZeros_0f7a4_77 (ushI_eq _ _) ?_
            refine lv_iadd S.1 S.2.1 dJ6_numberOfTrailingZeros_0f7a4_78 ?_
            exact s_iret S hr hlocks (by simp only [ntzI, ntzM, if_pos c9, nt1, if_neg c23, if_pos c38, if_neg c52, if_pos c64]) rfl dJ6_numberOfTrailingZeros_0f7a4_79
          · skip
            refine lv_iinc (k := 1) S.1 S.2.1 dJ6_numberOfTrailingZeros_0f7a4_67 hl rfl (inc_2 _) (by decide) rfl (fun ls hl => ?_)
            refine lv_iload_n S.1 S.2.1 dJ6_numberOfTrailingZeros_0f7a4_70 rfl (lv_at hl 1 rfl) ?_
            refine lv_iconst (v := (2)) S.1 S.2.1 dJ6_numberOfTrailingZeros_0f7a4_71 rfl ?_
            refine lv_iushr S.1 S.2.1 dJ6_numberOfTrailingZeros_0f7a4_72 (ushI_eq _ _) ?_
            refine lv_istore_n S.1 S.2.1 dJ6_numberOfTrailingZeros_0f7a4_73 rfl hl (by decide) rfl (fun ls hl => ?_)
            refine lv_iload_n S.1 S.2.1 dJ6_numberOfTrailingZeros_0f7a4_74 rfl (lv_at hl 1 rfl) ?_
            refine lv_iload_n S.1 S.2.1 dJ6_numberOfTrailingZeros_0f7a4_75 rfl (lv_at hl 0 rfl) ?_
            refine lv_iconst (v := (1)) S.1 S.2.1 dJ6_numberOfTrailingZeros_0f7a4_76 rfl ?_
            refine lv_iushr S.1 S.2.1 dJ6_numberOfTrailingZeros_0f7a4_77 (ushI_eq _ _) ?_
            refine lv_iadd S.1 S.2.1 dJ6_numberOfTrailingZeros_0f7a4_78 ?_
            exact s_iret S hr hlocks (by simp only [ntzI, ntzM, if_pos c9, nt1, if_neg c23, if_pos c38, if_neg c52, if_neg c64]) rfl dJ6_numberOfTrailingZeros_0f7a4_79
      · skip
        refine lv_iinc (k := 1) S.1 S.2.1 dJ6_numberOfTrailingZeros_0f7a4_41 hl rfl (inc_8 _) (by decide) rfl (fun ls hl => ?_)
        refine lv_iload_n S.1 S.2.1 dJ6_numberOfTrailingZeros_0f7a4_44 rfl (lv_at hl 1 rfl) ?_
        refine lv_bipush (v := (8)) S.1 S.2.1 dJ6_numberOfTrailingZeros_0f7a4_45 rfl ?_
        refine lv_iushr S.1 S.2.1 dJ6_numberOfTrailingZeros_0f7a4_47 (ushI_eq _ _) ?_
        refine lv_istore_n S.1 S.2.1 dJ6_numberOfTrailingZeros_0f7a4_48 rfl hl (by decide) rfl (fun ls hl => ?_)
        refine lv_iload_n S.1 S.2.1 dJ6_numberOfTrailingZeros_0f7a4_49 rfl (lv_at hl 0 rfl) ?_
        refine lv_bipush (v := (16)) S.1 S.2.1 dJ6_numberOfTrailingZeros_0f7a4_50 rfl ?_
        refine lv_icmp_le (tgt := 62) S.1 S.2.1 dJ6_numberOfTrailingZeros_0f7a4_52 (by decide) (fun c52 => ?_) (fun c52 => ?_)
        · skip
          refine lv_iload_n S.1 S.2.1 dJ6_numberOfTrailingZeros_0f7a4_62 rfl (lv_at hl 0 rfl) ?_
          refine lv_iconst (v := (4)) S.1 S.2.1 dJ6_numberOfTrailingZeros_0f7a4_63 rfl ?_
          refine lv_icmp_le (tgt := 74) S.1 S.2.1 dJ6_numberOfTrailingZeros_0f7a4_64 (by decide) (fun c64 => ?_) (fun c64 => ?_)
          · skip
            refine lv_iload_n S.1 S.2.1 dJ6_numberOfTrailingZeros_0f7a4_74 rfl (lv_at hl 1 rfl) ?_
            refine lv_iload_n S.1 S.2.1 dJ6_numberOfTrailingZeros_0f7a4_75 rfl (lv_at hl 0 rfl) ?_
            refine lv_iconst (v := (1)) S.1 S.2.1 dJ6_numberOfTrailingZeros_0f7a4_76 rfl ?_
            refine lv_iushr S.1 S.2.1 dJ6_numberOfTrailingZeros_0f7a4_77 (ushI_eq _ _) ?_
            refine lv_iadd S.1 S.2.1 dJ6_numberOfTrailingZeros_0f7a4_78 ?_
            exact s_iret S hr hlocks (by simp only [ntzI, ntzM, if_pos c9, nt1, if_neg c23, if_neg c38, if_pos c52, if_pos c64]) rfl dJ6_numberOfTrailingZeros_0f7a4_79
          · skip
            refine lv_iinc (k := 1) S.1 S.2.1 dJ6_numberOfTrailingZeros_0f7a4_67 hl rfl (inc_2 _) (by decide) rfl (fun ls hl => ?_)
            refine lv_iload_n S.1 S.2.1 dJ6_numberOfTrailingZeros_0f7a4_70 rfl (lv_at hl 1 rfl) ?_
            refine lv_iconst (v := (2)) S.1 S.2.1 dJ6_numberOfTrailingZeros_0f7a4_71 rfl ?_
            refine lv_iushr S.1 S.2.1 dJ6_numberOfTrailingZeros_0f7a4_72 (ushI_eq _ _) ?_
            refine lv_istore_n S.1 S.2.1 dJ6_numberOfTrailingZeros_0f7a4_73 rfl hl (by decide) rfl (fun ls hl => ?_)
            refine lv_iload_n S.1 S.2.1 dJ6_numberOfTrailingZeros_0f7a4_74 rfl (lv_at hl 1 rfl) ?_
            refine lv_iload_n S.1 S.2.1 dJ6_numberOfTrailingZeros_0f7a4_75 rfl (lv_at hl 0 rfl) ?_
            refine lv_iconst (v := (1)) S.1 S.2.1 dJ6_numberOfTrailingZeros_0f7a4_76 rfl ?_
            refine lv_iushr S.1 S.2.1 dJ6_numberOfTrailingZeros_0f7a4_77 (ushI_eq _ _) ?_
            refine lv_iadd S.1 S.2.1 dJ6_numberOfTrailingZeros_0f7a4_78 ?_
            exact s_iret S hr hlocks (by simp only [ntzI, ntzM, if_pos c9, nt1, if_neg c23, if_neg c38, if_pos c52, if_neg c64]) rfl dJ6_numberOfTrailingZeros_0f7a4_79
        · skip
          refine lv_iinc (k := 1) S.1 S.2.1 dJ6_numberOfTrailingZeros_0f7a4_55 hl rfl (inc_4 _) (by decide) rfl (fun ls hl => ?_)
          refine lv_iload_n S.1 S.2.1 dJ6_numberOfTrailingZeros_0f7a4_58 rfl (lv_at hl 1 rfl) ?_
          refine lv_iconst (v := (4)) S.1 S.2.1 dJ6_numberOfTrailingZeros_0f7a4_59 rfl ?_
          refine lv_iushr S.1 S.2.1 dJ6_numberOfTrailingZeros_0f7a4_60 (ushI_eq _ _) ?_
          refine lv_istore_n S.1 S.2.1 dJ6_numberOfTrailingZeros_0f7a4_61 rfl hl (by decide) rfl (fun ls hl => ?_)
          refine lv_iload_n S.1 S.2.1 dJ6_numberOfTrailingZeros_0f7a4_62 rfl (lv_at hl 0 rfl) ?_
          refine lv_iconst (v := (4)) S.1 S.2.1 dJ6_numberOfTrailingZeros_0f7a4_63 rfl ?_
          refine lv_icmp_le (tgt := 74) S.1 S.2.1 dJ6_numberOfTrailingZeros_0f7a4_64 (by decide) (fun c64 => ?_) (fun c64 => ?_)
          · skip
            refine lv_iload_n S.1 S.2.1 dJ6_numberOfTrailingZeros_0f7a4_74 rfl (lv_at hl 1 rfl) ?_
            refine lv_iload_n S.1 S.2.1 dJ6_numberOfTrailingZeros_0f7a4_75 rfl (lv_at hl 0 rfl) ?_
            refine lv_iconst (v := (1)) S.1 S.2.1 dJ6_numberOfTrailingZeros_0f7a4_76 rfl ?_
            refine lv_iushr S.1 S.2.1 dJ6_numberOfTrailingZeros_0f7a4_77 (ushI_eq _ _) ?_
            refine lv_iadd S.1 S.2.1 dJ6_numberOfTrailingZeros_0f7a4_78 ?_
            exact s_iret S hr hlocks (by simp only [ntzI, ntzM, if_pos c9, nt1, if_neg c23, if_neg c38, if_neg c52, if_pos c64]) rfl dJ6_numberOfTrailingZeros_0f7a4_79
          · skip
            refine lv_iinc (k := 1) S.1 S.2.1 dJ6_numberOfTrailingZeros_0f7a4_67 hl rfl (inc_2 _) (by decide) rfl (fun ls hl => ?_)
            refine lv_iload_n S.1 S.2.1 dJ6_numberOfTrailingZeros_0f7a4_70 rfl (lv_at hl 1 rfl) ?_
            refine lv_iconst (v := (2)) S.1 S.2.1 dJ6_numberOfTrailingZeros_0f7a4_71 rfl ?_
            refine lv_iushr S.1 S.2.1 dJ6_numberOfTrailingZeros_0f7a4_72 (ushI_eq _ _) ?_
            refine lv_istore_n S.1 S.2.1 dJ6_numberOfTrailingZeros_0f7a4_73 rfl hl (by decide) rfl (fun ls hl => ?_)
            refine lv_iload_n S.1 S.2.1 dJ6_numberOfTrailingZeros_0f7a4_74 rfl (lv_at hl 1 rfl) ?_
            refine lv_iload_n S.1 S.2.1 dJ6_numberOfTrailingZeros_0f7a4_75 rfl (lv_at hl 0 rfl) ?_
            refine lv_iconst (v := (1)) S.1 S.2.1 dJ6_numberOfTrailingZeros_0f7a4_76 rfl ?_
            refine lv_iushr S.1 S.2.1 dJ6_numberOfTrailingZeros_0f7a4_77 (ushI_eq _ _) ?_
            refine lv_iadd S.1 S.2.1 dJ6_numberOfTrailingZeros_0f7a4_78 ?_
            exact s_iret S hr hlocks (by simp only [ntzI, ntzM, if_pos c9, nt1, if_neg c23, if_neg c38, if_neg c52, if_neg c64]) rfl dJ6_numberOfTrailingZeros_0f7a4_79
  · skip
    refine lv_iload_n S.1 S.2.1 dJ6_numberOfTrailingZeros_0f7a4_12 rfl (lv_at hl 0 rfl) ?_
    refine lv_bipush (v := (32)) S.1 S.2.1 dJ6_numberOfTrailingZeros_0f7a4_13 rfl ?_
    refine lv_iand S.1 S.2.1 dJ6_numberOfTrailingZeros_0f7a4_15 ?_
    exact s_iret S hr hlocks (by rw [ntzI, ntzM, if_neg c9]) rfl dJ6_numberOfTrailingZeros_0f7a4_16
set_option maxRecDepth 100000 in
set_option maxHeartbeats 4000000 in
theorem c_J13_bitCount_95d88 (l : Launch) (v : Int64) : MSi l yJ13_bitCount_95d88 cJ13_bitCount_95d88 2 (some .int) (rmL 1 0 0) [.long v] (fun r => r = popL v) := by
  refine s_enter (by decide) (Nat.le_of_ble_eq_true rfl) ?_
  intro p e s m below meth c ls S hr hlocks hl
  refine lv_lload_n S.1 S.2.1 dJ13_bitCount_95d88_0 rfl (lv_at hl 0 rfl) ?_
  refine lv_lload_n S.1 S.2.1 dJ13_bitCount_95d88_1 rfl (lv_at hl 0 rfl) ?_
  refine lv_iconst (v := (1)) S.1 S.2.1 dJ13_bitCount_95d88_2 rfl ?_
  refine lv_lushr S.1 S.2.1 dJ13_bitCount_95d88_3 (ushL_eq _ _) ?_
  refine lv_ldc2 S.1 S.2.1 S.2.2.2.1 (S.2.2.2.2 _ w_135) dJ13_bitCount_95d88_4 ?_
  refine lv_land S.1 S.2.1 dJ13_bitCount_95d88_7 ?_
  refine lv_lsub S.1 S.2.1 dJ13_bitCount_95d88_8 ?_
  refine lv_lstore_n S.1 S.2.1 dJ13_bitCount_95d88_9 rfl hl (by decide) rfl (fun ls hl => ?_)
  refine lv_lload_n S.1 S.2.1 dJ13_bitCount_95d88_10 rfl (lv_at hl 0 rfl) ?_
  refine lv_ldc2 S.1 S.2.1 S.2.2.2.1 (S.2.2.2.2 _ w_136) dJ13_bitCount_95d88_11 ?_
  refine lv_land S.1 S.2.1 dJ13_bitCount_95d88_14 ?_
  refine lv_lload_n S.1 S.2.1 dJ13_bitCount_95d88_15 rfl (lv_at hl 0 rfl) ?_
  refine lv_iconst (v := (2)) S.1 S.2.1 dJ13_bitCount_95d88_16 rfl ?_
  refine lv_lushr S.1 S.2.1 dJ13_bitCount_95d88_17 (ushL_eq _ _) ?_
  refine lv_ldc2 S.1 S.2.1 S.2.2.2.1 (S.2.2.2.2 _ w_136) dJ13_bitCount_95d88_18 ?_
  refine lv_land S.1 S.2.1 dJ13_bitCount_95d88_21 ?_
  refine lv_ladd S.1 S.2.1 dJ13_bitCount_95d88_22 ?_
  refine lv_lstore_n S.1 S.2.1 dJ13_bitCount_95d88_23 rfl hl (by decide) rfl (fun ls hl => ?_)
  refine lv_lload_n S.1 S.2.1 dJ13_bitCount_95d88_24 rfl (lv_at hl 0 rfl) ?_
  refine lv_lload_n S.1 S.2.1 dJ13_bitCount_95d88_25 rfl (lv_at hl 0 rfl) ?_
  refine lv_iconst (v := (4)) S.1 S.2.1 dJ13_bitCount_95d88_26 rfl ?_
  refine lv_lushr S.1 S.2.1 dJ13_bitCount_95d88_27 (ushL_eq _ _) ?_
  refine lv_ladd S.1 S.2.1 dJ13_bitCount_95d88_28 ?_
  refine lv_ldc2 S.1 S.2.1 S.2.2.2.1 (S.2.2.2.2 _ w_137) dJ13_bitCount_95d88_29 ?_
  refine lv_land S.1 S.2.1 dJ13_bitCount_95d88_32 ?_
  refine lv_lstore_n S.1 S.2.1 dJ13_bitCount_95d88_33 rfl hl (by decide) rfl (fun ls hl => ?_)
  refine lv_lload_n S.1 S.2.1 dJ13_bitCount_95d88_34 rfl (lv_at hl 0 rfl) ?_
  refine lv_lload_n S.1 S.2.1 dJ13_bitCount_95d88_35 rfl (lv_at hl 0 rfl) ?_
  refine lv_bipush (v := (8)) S.1 S.2.1 dJ13_bitCount_95d88_36 rfl ?_
  refine lv_lushr S.1 S.2.1 dJ13_bitCount_95d88_38 (ushL_eq _ _) ?_
  refine lv_ladd S.1 S.2.1 dJ13_bitCount_95d88_39 ?_
  refine lv_lstore_n S.1 S.2.1 dJ13_bitCount_95d88_40 rfl hl (by decide) rfl (fun ls hl => ?_)
  refine lv_lload_n S.1 S.2.1 dJ13_bitCount_95d88_41 rfl (lv_at hl 0 rfl) ?_
  refine lv_lload_n S.1 S.2.1 dJ13_bitCount_95d88_42 rfl (lv_at hl 0 rfl) ?_
  refine lv_bipush (v := (16)) S.1 S.2.1 dJ13_bitCount_95d88_43 rfl ?_
  refine lv_lushr S.1 S.2.1 dJ13_bitCount_95d88_45 (ushL_eq _ _) ?_
  refine lv_ladd S.1 S.2.1 dJ13_bitCount_95d88_46 ?_
  refine lv_lstore_n S.1 S.2.1 dJ13_bitCount_95d88_47 rfl hl (by decide) rfl (fun ls hl => ?_)
  refine lv_lload_n S.1 S.2.1 dJ13_bitCount_95d88_48 rfl (lv_at hl 0 rfl) ?_
  refine lv_lload_n S.1 S.2.1 dJ13_bitCount_95d88_49 rfl (lv_at hl 0 rfl) ?_
  refine lv_bipush (v := (32)) S.1 S.2.1 dJ13_bitCount_95d88_50 rfl ?_
  refine lv_lushr S.1 S.2.1 dJ13_bitCount_95d88_52 (ushL_eq _ _) ?_
  refine lv_ladd S.1 S.2.1 dJ13_bitCount_95d88_53 ?_
  refine lv_lstore_n S.1 S.2.1 dJ13_bitCount_95d88_54 rfl hl (by decide) rfl (fun ls hl => ?_)
  refine lv_lload_n S.1 S.2.1 dJ13_bitCount_95d88_55 rfl (lv_at hl 0 rfl) ?_
  refine lv_l2i S.1 S.2.1 dJ13_bitCount_95d88_56 rfl ?_
  refine lv_bipush (v := (127)) S.1 S.2.1 dJ13_bitCount_95d88_57 rfl ?_
  refine lv_iand S.1 S.2.1 dJ13_bitCount_95d88_59 ?_
  exact s_iret S hr hlocks rfl rfl dJ13_bitCount_95d88_60
set_option maxRecDepth 100000 in
set_option maxHeartbeats 4000000 in
theorem c_J13_numberOfTrailingZeros_95d88 (l : Launch) (v : Int64) : MSi l yJ13_numberOfTrailingZeros_95d88 cJ13_numberOfTrailingZeros_95d88 3 (some .int) (rmL 2 0 0) [.long v] (fun r => r = ntzL v) := by
  refine s_enter (by decide) (Nat.le_of_ble_eq_true rfl) ?_
  intro p e s m below meth c ls S hr hlocks hl
  refine lv_lload_n S.1 S.2.1 dJ13_numberOfTrailingZeros_95d88_0 rfl (lv_at hl 0 rfl) ?_
  refine lv_l2i S.1 S.2.1 dJ13_numberOfTrailingZeros_95d88_1 rfl ?_
  refine lv_istore_n S.1 S.2.1 dJ13_numberOfTrailingZeros_95d88_2 rfl hl (by decide) rfl (fun ls hl => ?_)
  refine lv_iload_n S.1 S.2.1 dJ13_numberOfTrailingZeros_95d88_3 rfl (lv_at hl 0 rfl) ?_
  refine lv_if_ne (tgt := 21) S.1 S.2.1 dJ13_numberOfTrailingZeros_95d88_4 (by decide) (fun c4 => ?_) (fun c4 => ?_)
  · skip
    refine lv_iload_n S.1 S.2.1 dJ13_numberOfTrailingZeros_95d88_21 rfl (lv_at hl 0 rfl) ?_
    refine s_calli S (c_J6_numberOfTrailingZeros_0f7a4 l _) cw_RJ13_J6_numberOfTrailingZeros_0f7a4 ⟨rfl, rfl, by decide, by decide⟩ rfl hl.1 rfl (Nat.le_of_ble_eq_true rfl) dJ13_numberOfTrailingZeros_95d88_22 ⟨(Nat.le_of_ble_eq_true rfl), (Nat.le_of_ble_eq_true rfl)⟩ (fun r22 hp => ?_)
    subst hp
    exact s_iret S hr hlocks (by rw [ntzL, if_neg c4]) rfl dJ13_numberOfTrailingZeros_95d88_25
  · skip
    refine lv_bipush (v := (32)) S.1 S.2.1 dJ13_numberOfTrailingZeros_95d88_7 rfl ?_
    refine lv_lload_n S.1 S.2.1 dJ13_numberOfTrailingZeros_95d88_9 rfl (lv_at hl 1 rfl) ?_
    refine lv_bipush (v := (32)) S.1 S.2.1 dJ13_numberOfTrailingZeros_95d88_10 rfl ?_
    refine lv_lushr S.1 S.2.1 dJ13_numberOfTrailingZeros_95d88_12 (ushL_eq _ _) ?_
    refine lv_l2i S.1 S.2.1 dJ13_numberOfTrailingZeros_95d88_13 rfl ?_
    refine s_calli S (c_J6_numberOfTrailingZeros_0f7a4 l _) cw_RJ13_J6_numberOfTrailingZeros_0f7a4 ⟨rfl, rfl, by decide, by decide⟩ rfl hl.1 rfl (Nat.le_of_ble_eq_true rfl) dJ13_numberOfTrailingZeros_95d88_14 ⟨(Nat.le_of_ble_eq_true rfl), (Nat.le_of_ble_eq_true rfl)⟩ (fun r14 hp => ?_)
    subst hp
    refine lv_iadd S.1 S.2.1 dJ13_numberOfTrailingZeros_95d88_17 ?_
    refine lv_goto (tgt := 25) S.1 S.2.1 dJ13_numberOfTrailingZeros_95d88_18 (by decide) ?_
    exact s_iret S hr hlocks (by rw [ntzL, if_pos c4]) rfl dJ13_numberOfTrailingZeros_95d88_25
end
section
/-! 'throw new E(text)' where E's own constructor hands its text on by another entry of its table (JDK 17: NoSuchElementException); after the library's law of ctorThrowS, the first link free -/
def y_own (own : String) (ic : Nat) (X Y : String) (i1 : Nat) (b1 : ByteArray) (names : List String) : List Cond :=
  Bundle.throwableAtoms ++ Bundle.throwableSAtoms ++ Bundle.passSAtoms X Y i1 b1 ++ Bundle.chainSAtoms Y names ++
  [.methodLink own ic (Bundle.initS X), .instantiable X 6, .castable X X, .selects X Bundle.tFill0 Bundle.tFill0, .selects X Bundle.tFill Bundle.tFill,
   .lays X Bundle.tN "cause" "Ljava/lang/Throwable;", .lays X Bundle.tN "stackTrace" Bundle.steD, .lays X Bundle.tN "suppressedExceptions" Bundle.listD, .lays X Bundle.tN "detailMessage" "Ljava/lang/String;",
   .isRef (.static Bundle.tN "UNASSIGNED_STACK" Bundle.steD), .isRef (.static Bundle.tN "SUPPRESSED_SENTINEL" Bundle.listD),
   .fieldLink Bundle.tN 198 Bundle.tN "backtrace" "Ljava/lang/Object;", .lays Bundle.tN Bundle.tN "backtrace" "Ljava/lang/Object;", .lays X Bundle.tN "backtrace" "Ljava/lang/Object;"]
section YC
variable {p : Program} {l : Launch} {e : Env} {R : Room} {s : State} {m₀ : MethodId} {args : Array Value} {below : List Frame} {meth : Method} {c : Code} {W0 : State} {locs : List Loc} {cells slots : Nat}
set_option maxHeartbeats 4000000 in
theorem y_ctorThrow {YY : String} {i1 : Nat} {b1 : ByteArray} (g0 : decode b1 0 = .ok (.aload_n 0, 1)) (g1 : decode b1 1 = .ok (.aload_n 1, 1)) (g2 : decode b1 2 = .ok (.invokespecial i1, 3)) (g5 : decode b1 5 = .ok (.return_, 1)) (X : Stand p l e R s m₀ args below meth c W0 locs cells slots) (hexec : p.tables.exec = Jvm.exec) (htr : e.platform.stackTraces = false) {own cls : String} {names : List String} {ic : Nat}
    (hown : s.vm.findClass own = some m₀.cls) (hcls : Bundle.fit cls = true) (hYY : Bundle.fit YY = true) (hnames : ∀ n ∈ names, Bundle.fit n = true)
    (h : ∀ a ∈ y_own own ic cls YY i1 b1 names, a.before args s = true)
    (hlocs : ∀ x ∈ locs, ∀ cell, s.heap[x.base]? = some cell → cell.vm.isStatics = false)
    {a : Addr} {cX : ClassId} {kX : Class} (hfoundX : s.vm.findClass cls = some cX) (hkX : s.vm.classes[cX]? = some kX) (hcell : W0.heap[a]? = some (freshCell cX kX)) (hnew : s.heap.size ≤ a)
    {msg : Value} (hmsg : msg.isRef = true)
    {g : JFrame} (hg : g.method = m₀) (hsize : g.locals.size = c.maxLocals) (hlocked : g.locked = none) (hentered : g.entered = []) {rest : List Value} (hstack : g.stack = msg :: .ref a :: .ref a :: rest)
    (hd6 : decode c.code g.pc = .ok (.invokespecial ic, 3)) (hd9 : decode c.code (g.pc + 3) = .ok (.athrow, 1)) (hout : ∀ x ∈ c.exceptionTable.toList, covers x (g.pc + 3) = false)
    (hRframes : names.length + 1 + 3 < R.frames) (hRlocals : 2 * g.monitorRoom + ((Value.ref a :: rest).map fun v => v.category).sum + (13 * (names.length + 1 + 1) + 42) ≤ R.locals) (hlocks : meth.locks = false) :
    ∃ U : State, Steps p.tables e below (W0.setTop g) U ∧ U.status = .running ∧ Ended U below (.threw a) ∧ s.WarmedH U.vm ∧ s.sameButNew ({ U with vm := s.vm } : State) locs cells slots ∧
      ∃ ce, U.heap[a]? = some ce ∧ s.vm.findClass cls = some ce.cls ∧ ce.vm = .none := by
  have howns : e.platform.frameOwnsMonitors = true := by rw [X.admits.platform]
  have hfin : e.platform.finalization = false := by rw [X.admits.platform]
  have hpl : e.platform.magicAccessors = ({} : Platform).magicAccessors := by rw [X.admits.platform]
  have a' : ∀ x, x ∈ y_own own ic cls YY i1 b1 names → x.holds args s none s [] = true := fun x hx => h x hx
  obtain ⟨T, Z0, L, -, Y⟩ := ThrowableC.of_atoms (args := args) howns hfin hpl (fun x hx => h x (by simp [y_own, hx]))
  obtain ⟨Z, M, LZ, LM, hnZ⟩ := Init0T.ofS_atoms (args := args) hpl L Y (fun x hx => h x (by simp [y_own, hx]))
  obtain ⟨P1, L1, hP1m, hs1⟩ := PassC.ofS_atoms (args := args) hpl (X := cls) (Y := YY) (Bundle.fit_spec hcls).1 (Bundle.fit_spec hYY).2 g0 g1 g2 g5 (fun x hx => h x (by simp [y_own, hx]))
  obtain ⟨P2, Ps2, hlen2, L2, hL2, hP2m, hlink2, hlink3⟩ := Bundle.chainS (args := args) hpl hnZ names YY hYY hnames (fun x hx => h x (by simp [y_own, hx]))
  obtain ⟨Ps, hPs⟩ : ∃ z, z = P2 :: Ps2 := ⟨_, rfl⟩
  have hlen : Ps.length = names.length + 1 := by rw [hPs, List.length_cons, hlen2]
  have hL : ∀ P, P ∈ Ps → P.LinksS e.platform s := by
    intro P hP
    rw [hPs] at hP
    rcases List.mem_cons.mp hP with rfl | hP
    · exact L2
    · exact hL2 P hP
  have hlinkA : P1.sup = P2.m := Option.some.inj (hs1.symm.trans hP2m)
  have hfound : s.vm.findClass cls = some P1.m.cls := findClass_of_methodNamed hP1m
  cases Option.some.inj (hfoundX.symm.trans hfound)
  obtain ⟨c1, kX', hc1, hk, hord, -, -, hn6⟩ := Cond.instantiable_spec (a' (.instantiable cls 6) (by simp [y_own]))
  cases Option.some.inj (hc1.symm.trans hfound)
  cases Option.some.inj (hkX.symm.trans hk)
  have hsel0 : selectMethod e.platform s.vm P1.m.cls T.fill0 = .method T.fill0 := by
    obtain ⟨c2, r2, m2, q1, q2, q3, q4, -⟩ := Cond.selects_spec (a' (.selects cls Bundle.tFill0 Bundle.tFill0) (by simp [y_own]))
    cases Option.some.inj (q1.symm.trans hfound)
    cases Option.some.inj (q2.symm.trans (State.methodFound?_of_named Y.fill0 (by decide)))
    cases Option.some.inj (q3.symm.trans Y.fill0)
    rw [Launch.admits_selectMethod X.admits]; exact q4
  have hselF : selectMethod e.platform s.vm P1.m.cls T.fill = .method T.fill := by
    obtain ⟨c2, r2, m2, q1, q2, q3, q4, -⟩ := Cond.selects_spec (a' (.selects cls Bundle.tFill Bundle.tFill) (by simp [y_own]))
    cases Option.some.inj (q1.symm.trans hfound)
    cases Option.some.inj (q2.symm.trans (State.methodFound?_of_named Y.fill (by decide)))
    cases Option.some.inj (q3.symm.trans Y.fill)
    rw [Launch.admits_selectMethod X.admits]; exact q4
  obtain ⟨cellS0, hcS0, hiss⟩ := Y.statics
  obtain ⟨u0, hu0⟩ := Cond.staticRefV Y.unassigned L.unassignedStatic L.statics hcS0 hiss (a' (.isRef (.static Bundle.tN "UNASSIGNED_STACK" Bundle.steD)) (by simp [y_own]))
  obtain ⟨sen, hsen⟩ := Cond.staticRefV Y.sentinel L.sentinelStatic L.statics hcS0 hiss (a' (.isRef (.static Bundle.tN "SUPPRESSED_SENTINEL" Bundle.listD)) (by simp [y_own]))
  obtain ⟨ci198, i198, fB, hk198, hg198, ha198, hsB, -, hnB, htB, hffB⟩ := Cond.ownField (t := .object "java/lang/Object") Y.found L.cls (by decide +kernel) (a' (.fieldLink Bundle.tN 198 Bundle.tN "backtrace" "Ljava/lang/Object;") (by simp [y_own])) (a' (.lays Bundle.tN Bundle.tN "backtrace" "Ljava/lang/Object;") (by simp [y_own])) e.platform hpl
  obtain ⟨cellS, hcS', heS, -, hkeep⟩ := X.same.2.2.2.2.2 T.aS cellS0 hcS0
  have hcellS : W0.heap[T.aS]? = some cellS := hcS'
  have hout' : ∀ i, (⟨T.aS, i⟩ : Loc) ∉ locs := fun i hmem => by
    have := hlocs _ hmem cellS0 hcS0
    rw [hiss] at this; cases this
  have hknownS : cellS.vm ≠ .unknown := by
    rw [heS]; intro hu
    rw [show cellS0.vm = .unknown from hu] at hiss
    cases hiss
  have hneS : T.aS ≠ a := Nat.ne_of_lt (Nat.lt_of_lt_of_le (Array.getElem?_eq_some_iff.mp hcS0).1 hnew)
  obtain ⟨iM, hffM⟩ := Y.msg
  obtain ⟨tyC, dC, hdC, hdnC⟩ := Cond.laysAt hfound hk Y.cause (a' (.lays cls Bundle.tN "cause" "Ljava/lang/Throwable;") (by simp [y_own]))
  obtain ⟨tyS, dS, hdS, hdnS⟩ := Cond.laysAt hfound hk Y.stack (a' (.lays cls Bundle.tN "stackTrace" Bundle.steD) (by simp [y_own]))
  obtain ⟨tyP, dP, hdP, hdnP⟩ := Cond.laysAt hfound hk Y.supp (a' (.lays cls Bundle.tN "suppressedExceptions" Bundle.listD) (by simp [y_own]))
  obtain ⟨tyM, dM, hdM, hdnM⟩ := Cond.laysAt hfound hk hffM (a' (.lays cls Bundle.tN "detailMessage" "Ljava/lang/String;") (by simp [y_own]))
  obtain ⟨tyB, dB, hdB, hdnB⟩ := Cond.laysAt hfound hk hffB (a' (.lays cls Bundle.tN "backtrace" "Ljava/lang/Object;") (by simp [y_own]))
  have bC := Cond.laysApart hdB hdC hdnB hdnC (by rw [hnB, Y.causeName]; decide)
  have bS := Cond.laysApart hdB hdS hdnB hdnS (by rw [hnB, Y.stackName]; decide)
  have bP := Cond.laysApart hdB hdP hdnB hdnP (by rw [hnB, Y.suppName]; decide)
  have hskip : SkipFacts T e.platform s (fun u => u) u0 ((preparedCellV T.toThrowableT (freshCell P1.m.cls kX) a u0 sen).withEntry W0.cur) :=
    ⟨{ ci198 := ci198, i198 := i198, fBack := fB }, ⟨hk198, hg198, ha198, hsB⟩, by
      have := fresh_default (c := P1.m.cls) tyB
      rw [htB] at this
      simpa [preparedCellV, Cell.setSlot, Cell.withEntry, Array.getElem?_setIfInBounds, bC, bS, bP, bC.symm, bS.symm, bP.symm, defaultValue] using this, fun _ _ => rfl⟩
  obtain ⟨tm, methC, cdC, kC, vm₁, hnC, -, -, -, -, -, -, -, hW₁, st1⟩ := Steps.initColdS (tb := p.tables) (e := e) (below := below) (s := s) (U := W0) X.here hexec X.warmed hpl hown (t := Bundle.initS cls) rfl rfl (Bundle.fit_spec hcls).2
    (a' (.methodLink own ic (Bundle.initS cls)) (by simp [y_own])) (h (.instanceMethod (Bundle.initS cls)) (by simp [y_own, Bundle.passSAtoms])) (bytes := b1) (maxL := 2) (h (.code (Bundle.initS cls) b1 2 none) (by simp [y_own, Bundle.passSAtoms]))
    (f := g) hg (a := a) (msg := msg) (rest := .ref a :: rest) hstack hd6
  cases Option.some.inj (hnC.symm.trans hP1m)
  have X₁ := X.noted hW₁
  obtain ⟨vm₂, X₂, st2⟩ := X₁.ctorMessageOffV hexec (g := { g with stack := .ref a :: rest }) hg hsize T L Z LZ M LM (P1 :: Ps)
    (fun P hP => by rcases List.mem_cons.mp hP with rfl | hP; exact L1; exact hL P hP) (by rw [hPs]; exact ⟨hlinkA, hlink2, hlink3⟩) (u0 := u0) (sen := sen) (self := a) hmsg (cell := freshCell P1.m.cls kX) (cellS := cellS)
    hcell (fun _ => by simp) (by simp) rfl rfl hsel0 hselF hcellS hneS hknownS (by rw [hkeep _ (hout' _)]; exact hu0) (by rw [hkeep _ (hout' _)]; exact hsen)
    (Takes.of_laid hk hord tyC (by rw [Y.causeType]; rfl)) (Takes.of_laid hk hord tyS (by rw [Y.stackType]; exact fits_refV_array _ u0)) (Takes.of_laid hk hord tyP (by rw [Y.suppType]; exact fits_refV_object _ sen))
    (Takes.of_laid hk hord tyM (by rw [Y.msgType]; exact fits_refV_object _ ⟨msg, hmsg⟩)) Y.objLocals hskip htr [] hd6
    (by simp only [List.length_cons, hlen]; omega) (by simp only [List.length_cons, hlen]; exact hRlocals)
  obtain ⟨hwalk, hrun, hended, hWU, hsame⟩ := X₂.athrowLeaves hexec (g := { g with stack := .ref a :: rest, pc := g.pc + 3 }) hg hlocked hentered hout (a := a) (rest := rest) rfl hd9
  have hlt : a < ((W0.setVm vm₁).setVm vm₂).heap.size := (Array.getElem?_eq_some_iff.mp hcell).1
  have hU := heapAt_setCell_self (s := (W0.setVm vm₁).setVm vm₂) (plainBareV T.toThrowableT (freshCell P1.m.cls kX) a u0 sen msg) hlt
  refine ⟨_, st1 _ (fun acts => ?_), hrun, hended, hWU, hsame.weaken (fun y hy hlt' => ?_) (Nat.le_refl _) (Nat.le_refl _), _, hU, hfound, rfl⟩
  · rw [doInvoke_state]
    exact st2 _ hwalk
  · rcases List.mem_append.mp hy with h1 | h1
    · exact h1
    · exfalso
      have hb : y.base = a := by
        simp only [List.mem_cons, List.not_mem_nil, or_false] at h1
        rcases h1 with rfl | rfl | rfl | rfl | rfl <;> rfl
      rw [hb] at hlt'
      exact Nat.not_lt.mpr hnew hlt'
end YC
def y_at (own : String) (ic : Nat) (X Y : String) (i1 : Nat) (b1 : ByteArray) (names : List String) : List Cond := (y_own own ic X Y i1 b1 names).filter vx_no
section YT
variable {p : Program} {l : Launch} {e : Env} {R : Room} {s : State} {m : MethodId} {args : Array Value} {below : List Frame} {meth : Method} {c : Code} {H : Heap} {locs : List Loc} {cells slots : Nat} {Q : State → Prop}
variable {mc ms : Nat} {free : Addr → Prop} {A0 A1 : Nat → Prop} {H0 : Heap} {a : Array Value} {ls : Array Slot} {st0 rest : List Value}
variable {Qc : Array Value → State → Outcome → State → Prop} {XC : String → State → State → Prop}
set_option maxHeartbeats 4000000 in
theorem y_throw {YY : String} {i1 : Nat} {b1 : ByteArray} (g0 : decode b1 0 = .ok (.aload_n 0, 1)) (g1 : decode b1 1 = .ok (.aload_n 1, 1)) (g2 : decode b1 2 = .ok (.invokespecial i1, 3)) (g5 : decode b1 5 = .ok (.return_, 1)) (hYY : Bundle.fit YY = true) {cc : ByteArray} {pc : Nat} (hexec : p.tables.exec = Jvm.exec) (hb : c.code = cc) (hl : l.stackTraces = false) {own cls text : String} {names : List String} {ik is ic mc ms sa : Nat} {A : Nat → Prop}
    (hown : s.vm.findClass own = some m.cls) (hcls : Bundle.fit cls = true) (hnames : ∀ n ∈ names, Bundle.fit n = true)
    (hk : (Cond.classLink own ik cls).before args s = true) (hini : (Cond.initialized cls).before args s = true) (hstr : vk_R own is text sa s) (hat : ∀ w ∈ y_at own ic cls YY i1 b1 names, w.before args s = true)
    (hgood : ∀ w ∈ Cond.classLink own ik cls :: Cond.initialized cls :: y_at own ic cls YY i1 b1 names, vx_ot w = true)
    (hU : vx_Zq Bundle.tN "UNASSIGNED_STACK" Bundle.steD A s s.heap) (hN : vx_Zq Bundle.tN "SUPPRESSED_SENTINEL" Bundle.listD A s s.heap) (hS : va_S A s.heap H locs) (hsize : ls.size = c.maxLocals)
    (d0 : decode cc pc = .ok (.new ik, 3)) (d3 : decode cc (pc + 3) = .ok (.dup, 1)) (d4 : decode cc (pc + 4) = .ok (.ldc is, 2)) (d6 : decode cc (pc + 6) = .ok (.invokespecial ic, 3)) (d9 : decode cc (pc + 9) = .ok (.athrow, 1))
    (hout : ∀ x ∈ c.exceptionTable.toList, covers x (pc + 9) = false)
    (hRframes : names.length + 1 + 3 < R.frames) (hRlocals : (rest.map fun v => v.category).sum + (13 * (names.length + 1 + 1) + 43) ≤ R.locals) (hRcells : cells + 1 ≤ R.cells) (hRslots : slots + 6 ≤ R.slots) (hlocks : meth.locks = false)
    (hx : ∀ t : State, s.vm.Alike t.vm → H.size ≤ t.heap.size → (∀ q : Nat, q < H.size → t.heap[q]? = H[q]?) → XC cls s t)
    (hf : ∀ z ∈ locs, free z.base) (hc : cells + 1 ≤ mc) (hs : slots + 6 ≤ ms) :
    W p l e R s m args below meth c H locs cells slots (vx_MQ below Qc XC args s mc ms free) (F0 m pc ls rest) := by
  intro T hT X
  have htr : e.platform.stackTraces = false := (show e.platform.stackTraces = l.stackTraces by rw [X.admits.platform]).trans hl
  have Y := vx_rebase X (R' := { frames := R.frames, locals := R.locals, cells := 1, slots := 6 }) (Nat.le_refl _) (Nat.le_refl _) hRcells hRslots
  obtain ⟨s', hA⟩ : ∃ z, z = (T.setVm s.vm).setFrames (.invoking m args :: below) := ⟨_, rfl⟩
  rw [← hA] at Y
  have hvm : s'.vm = s.vm := by rw [hA]; rfl
  have hhp : s'.heap = H := by rw [hA]; exact hT
  have hW0 : s.WarmedH s'.vm := by rw [hvm]; exact State.WarmedH.refl s
  have hat' : ∀ w ∈ y_at own ic cls YY i1 b1 names, w.before args s' = true := fun w hw => vx_ot_at hW0 hvm.symm (hgood w (List.mem_cons_of_mem _ (List.mem_cons_of_mem _ hw))) (hat w hw)
  have hk' : (Cond.classLink own ik cls).before args s' = true := vx_ot_at hW0 hvm.symm (hgood _ List.mem_cons_self) hk
  have hini' : (Cond.initialized cls).before args s' = true := vx_ot_at hW0 hvm.symm (hgood _ (List.mem_cons_of_mem _ List.mem_cons_self)) hini
  have hU' : vx_Zq Bundle.tN "UNASSIGNED_STACK" Bundle.steD A s' s'.heap := by rw [hhp]; exact vx_Zq.moved hW0.alike (hU.kept hS.2.1)
  have hN' : vx_Zq Bundle.tN "SUPPRESSED_SENTINEL" Bundle.listD A s' s'.heap := by rw [hhp]; exact vx_Zq.moved hW0.alike (hN.kept hS.2.1)
  have h : ∀ w ∈ y_own own ic cls YY i1 b1 names, w.before args s' = true := vx_own hat' (vx_isRefq hU'.1) (vx_isRefq hN'.1) hU'.2.word hN'.2.word
  have hown' : s'.vm.findClass own = some m.cls := by rw [hvm]; exact hown
  have hins : (Cond.instantiable cls 6).before args s' = true := h _ (by simp [y_own])
  obtain ⟨vm₁, cX, kX, hfX, hkX, -, -, X₁, st1⟩ := Y.newCold hexec (own := own) (C := cls) (index := ik) (n := 6) hown' hk' hins hini'
    (g := F0 m pc ls rest) rfl (by rw [hb]; exact d0) (Nat.le_refl _) (Nat.le_refl _)
  generalize hT1 : (T.setVm vm₁).pushCell { cls := cX, slots := kX.instanceTypes.map defaultValue, vm := .none } = T1 at X₁ st1
  have hcat : (Value.ref T.heap.size).category = 1 := rfl
  have hcellA : T1.heap[T.heap.size]? = some (freshCell cX kX) := by rw [← hT1]; exact State.heap_pushCell_size _ _
  have d3' : decode c.code (pc + 3) = .ok (.dup, 1) := by rw [hb]; exact d3
  have d4' : decode c.code (pc + 4) = .ok (.ldc is, 2) := by rw [hb]; exact d4
  have hstr' : vk_R own is text sa s' := vk_R.warm hW0 hstr
  obtain ⟨U, hsteps, hrun, hend, hW, hsame, ce, hce, hOc, hOv⟩ := y_ctorThrow g0 g1 g2 g5 X₁ hexec htr (own := own) (cls := cls) (names := names) (ic := ic) hown' hcls hYY hnames h (fun x hx => nomatch hx) hfX hkX hcellA (by rw [hhp, hT]; exact Nat.le_refl _) (msg := .ref sa) rfl
    (g := { method := m, pc := pc + 6, locals := ls, stack := .ref sa :: .ref T.heap.size :: .ref T.heap.size :: rest, locked := none }) rfl hsize rfl rfl (rest := rest) rfl
    (by rw [hb]; exact d6) (by rw [hb]; exact d9) hout hRframes (by simp only [List.map_cons, List.sum_cons, hcat]; omega) hlocks
  obtain ⟨f1, f2⟩ := vx_frame hsame
  rw [hhp] at f1 f2
  have hWs : s.WarmedH U.vm := State.WarmedH.trans hW0 hW
  have hcl : s.vm.findClass cls = some ce.cls := by
    have h9 := hOc
    rw [hvm] at h9
    exact h9
  have hall : s.sameButNew ({ U with vm := s.vm } : State) locs mc ms := by
    subst hA
    obtain ⟨e1, e2⟩ := hsame
    rw [State.setFrames_setFrames] at e1
    have h2 : (T.setVm s.vm).sameButNew ({ U with vm := s.vm } : State) [] (0 + 1) (0 + 6) := ⟨e1, e2⟩
    have h3 := X.same.trans h2
    rw [List.append_nil] at h3
    exact h3.mono hc hs
  refine ⟨U, ?_, .threw T.heap.size, hrun, hend, Or.inr ⟨T.heap.size, rfl, cls, ce, locs, hx U hWs.alike f1 (fun q hq => f2 q hq (fun z hz => nomatch hz)), hce, hOv, hcl, hWs, hall, hf⟩⟩
  refine st1 _ ?_
  show Steps p.tables e below (T1.setTop { method := m, pc := pc + 3, locals := ls, stack := .ref T.heap.size :: rest, locked := none }) _
  jvm_step X₁.here [X₁.here.top, hexec, d3', Value.category]
  exact X₁.ldcString hexec (own := own) (text := text) (index := is) (a := sa) hown' hstr'.1 hstr'.2
    (g := { method := m, pc := pc + 4, locals := ls, stack := .ref T.heap.size :: .ref T.heap.size :: rest, locked := none }) rfl d4' _ hsteps
end YT
theorem xw_nse : ∀ w ∈ (y_at RX0 148 "java/util/NoSuchElementException" "java/lang/RuntimeException" 13 prog_22_method_4_code ["java/lang/Exception"]).filter goodWord, w ∈ WA := fun w h => wa_of (List.all_eq_true.mp (show ((y_at RX0 148 "java/util/NoSuchElementException" "java/lang/RuntimeException" 13 prog_22_method_4_code ["java/lang/Exception"]).filter goodWord).all (fun w => decide (w ∈ lw_tbl) && goodWord w) = true by decide +kernel) w h)
theorem xw_aio : ∀ w ∈ (vx_atS RX0 190 "java/lang/ArrayIndexOutOfBoundsException" ["java/lang/IndexOutOfBoundsException", "java/lang/RuntimeException", "java/lang/Exception"]).filter goodWord, w ∈ WA := fun w h => wa_of (List.all_eq_true.mp (show ((vx_atS RX0 190 "java/lang/ArrayIndexOutOfBoundsException" ["java/lang/IndexOutOfBoundsException", "java/lang/RuntimeException", "java/lang/Exception"]).filter goodWord).all (fun w => decide (w ∈ lw_tbl) && goodWord w) = true by decide +kernel) w h)
section XU
variable {p : Program} {l : Launch} {e : Env} {R : Room} {s : State} {m : MethodId} {args : Array Value} {below : List Frame} {meth : Method} {c : Code} {H : Heap} {locs : List Loc} {cells slots : Nat} {Q : State → Prop}
variable {cc : ByteArray} {pc nL : Nat} {ls : Array Slot} {rest : List Value} {loc : Nat → Nat} {n : Nat} {g : Gc} {S0 : RS} {Qc : Array Value → State → Outcome → State → Prop} {X : String → Prop} {mc ms is : Nat} {tx : String}
theorem x_throw_nse (hl : l.stackTraces = false) (S : CallFix p m c cc nL s args WA RX0) (hC : CX loc n g S0 s H locs) (hs : (is, tx) ∈ strsX) (hnt : ∀ x ∈ c.exceptionTable.toList, False) (hlocks : meth.locks = false) (hsz : ls.size = nL) (hX : X "java/util/NoSuchElementException")
    (d0 : decode cc pc = .ok (.new 144, 3)) (d3 : decode cc (pc + 3) = .ok (.dup, 1)) (d4 : decode cc (pc + 4) = .ok (.ldc is, 2)) (d6 : decode cc (pc + 6) = .ok (.invokespecial 148, 3)) (d9 : decode cc (pc + 9) = .ok (.athrow, 1))
    (hR : 5 < R.frames ∧ (rest.map fun v => v.category).sum + 82 ≤ R.locals ∧ cells + 1 ≤ R.cells ∧ slots + 6 ≤ R.slots) (hm : cells + 1 ≤ mc ∧ slots + 6 ≤ ms) : W p l e R s m args below meth c H locs cells slots (vx_MQ below Qc (Xc (HX loc n g) S0 (ZA loc 21) X) args s mc ms (ZA loc 21)) (F0 m pc ls rest) := by
  obtain ⟨⟨hK, ⟨h4, hU, hN, hst⟩, hJ⟩, hH, hS⟩ := hC
  obtain ⟨sa, hsa⟩ := hst _ hs
  exact y_throw (by decide +kernel) (by decide +kernel) (by decide +kernel) (by decide +kernel) (by decide) (cls := "java/util/NoSuchElementException") (YY := "java/lang/RuntimeException") (i1 := 13) (b1 := prog_22_method_4_code) (names := ["java/lang/Exception"]) (ik := 144) (ic := 148) S.1 S.2.1 hl S.2.2.2.1 (by decide) (by decide) (S.2.2.2.2 _ w_147) (S.2.2.2.2 _ w_148) hsa (vx_hat (fun w hw => S.2.2.2.2 w (xw_nse w hw)) (B := xwN) (by decide +kernel) (fun w hw => va_Nw.use (nw_tab hw) (h4 w hw))) (by decide +kernel) hU hN hS (hsz.trans S.2.2.1.symm) d0 d3 d4 d6 d9 (fun x hx => (hnt x hx).elim) hR.1 hR.2.1 hR.2.2.1 hR.2.2.2 hlocks
    (fun t hvm hz hk => ⟨(), trivial, ⟨hX, hH.kept (fun i hi => by
      have hi2 : loc i < H.size := by
        rcases Nat.eq_zero_or_pos i with h0 | h0
        · subst h0
          obtain ⟨cell, q1, -⟩ := hH.1
          exact (Array.getElem?_eq_some_iff.mp q1).1
        · have q1 := hH.2 (i - 1) (by omega)
          rw [show i - 1 + 1 = i by omega] at q1
          exact (Array.getElem?_eq_some_iff.mp q1).1
      exact hk _ hi2)⟩, ⟨Nat.le_trans hS.1 hz, fun q h1 h2 => by rw [hk q (Nat.lt_of_lt_of_le h1 hS.1)]; exact hS.2.1 q h1 h2⟩⟩) hS.2.2 hm.1 hm.2
theorem x_throw_aio (hl : l.stackTraces = false) (S : CallFix p m c cc nL s args WA RX0) (hC : CX loc n g S0 s H locs) (hs : (is, tx) ∈ strsX) (hnt : ∀ x ∈ c.exceptionTable.toList, False) (hlocks : meth.locks = false) (hsz : ls.size = nL) (hX : X "java/lang/ArrayIndexOutOfBoundsException")
    (d0 : decode cc pc = .ok (.new 186, 3)) (d3 : decode cc (pc + 3) = .ok (.dup, 1)) (d4 : decode cc (pc + 4) = .ok (.ldc is, 2)) (d6 : decode cc (pc + 6) = .ok (.invokespecial 190, 3)) (d9 : decode cc (pc + 9) = .ok (.athrow, 1))
    (hR : 6 < R.frames ∧ (rest.map fun v => v.category).sum + 95 ≤ R.locals ∧ cells + 1 ≤ R.cells ∧ slots + 6 ≤ R.slots) (hm : cells + 1 ≤ mc ∧ slots + 6 ≤ ms) : W p l e R s m args below meth c H locs cells slots (vx_MQ below Qc (Xc (HX loc n g) S0 (ZA loc 21) X) args s mc ms (ZA loc 21)) (F0 m pc ls rest) := by
  obtain ⟨⟨hK, ⟨h4, hU, hN, hst⟩, hJ⟩, hH, hS⟩ := hC
  obtain ⟨sa, hsa⟩ := hst _ hs
  exact vx_throwS (cls := "java/lang/ArrayIndexOutOfBoundsException") (names := ["java/lang/IndexOutOfBoundsException", "java/lang/RuntimeException", "java/lang/Exception"]) (ik := 186) (ic := 190) S.1 S.2.1 hl S.2.2.2.1 (by decide) (by decide) (S.2.2.2.2 _ w_206) (S.2.2.2.2 _ w_208) hsa (vx_hat (fun w hw => S.2.2.2.2 w (xw_aio w hw)) (B := xwN) (by decide +kernel) (fun w hw => va_Nw.use (nw_tab hw) (h4 w hw))) (by decide +kernel) hU hN hS (hsz.trans S.2.2.1.symm) d0 d3 d4 d6 d9 (fun x hx => (hnt x hx).elim) hR.1 hR.2.1 hR.2.2.1 hR.2.2.2 hlocks
    (fun t hvm hz hk => ⟨(), trivial, ⟨hX, hH.kept (fun i hi => by
      have hi2 : loc i < H.size := by
        rcases Nat.eq_zero_or_pos i with h0 | h0
        · subst h0
          obtain ⟨cell, q1, -⟩ := hH.1
          exact (Array.getElem?_eq_some_iff.mp q1).1
        · have q1 := hH.2 (i - 1) (by omega)
          rw [show i - 1 + 1 = i by omega] at q1
          exact (Array.getElem?_eq_some_iff.mp q1).1
      exact hk _ hi2)⟩, ⟨Nat.le_trans hS.1 hz, fun q h1 h2 => by rw [hk q (Nat.lt_of_lt_of_le h1 hS.1)]; exact hS.2.1 q h1 h2⟩⟩) hS.2.2 hm.1 hm.2
end XU
end
section
def Xg {σ : Type} (Hp : σ → Heap → Prop) (A : Nat → Prop) (X : String → σ → Prop) : String → State → State → Prop := vx_X (fun _ : σ => True) (fun E u t => X E u ∧ Hp u t.heap) A
section OG
variable {p : Program} {l : Launch} {e : Env} {R : Room} {s : State} {m : MethodId} {args : Array Value} {below : List Frame} {meth : Method} {c : Code} {H : Heap} {locs : List Loc} {cells slots : Nat} {Q : State → Prop}
variable {cc : ByteArray} {pc nL : Nat} {ls : Array Slot} {rest : List Value}
variable {σ : Type} {A : Nat → Prop} {Hp : σ → Heap → Prop} {Ev : State → Heap → Prop} {S0 : σ} {y : MethodName} {bytes : ByteArray} {maxL n idx mc ms mc' ms' b : Nat} {ret : Option FieldType} {rm : Room} {own : String} {As st0 : List Value}
theorem o_ycalli (hO : OI y.cls b A Hp Ev) (S : CallFix p m c cc nL s args WA own) (hC : Cn A Hp Ev S0 s H locs) {post : Int32 → σ → Prop} {X : String → Prop} {X' : String → σ → Prop} {Qc : Array Value → State → Outcome → State → Prop} (hM : vx_Met l y (wsM y bytes maxL ret) rm (PcO Hp Ev S0 (.ref b :: As)) (va_Qi post (fun S' t => Hp S' t.heap) A) (Xc Hp S0 A X) mc ms A) (hw : VW own idx y bytes maxL ret n) (hrm : RmOk rm R maxL mc ms) (hn : As.length = n) (hsize : ls.size = nL) (hst : st0 = As.reverse ++ .ref b :: rest) (hW : (rest.map fun v => v.category).sum ≤ 8) (hdg : decode cc pc = .ok (.invokevirtual idx, 3)) (hf : cells + mc ≤ R.cells ∧ slots + ms ≤ R.slots)
    (hnt : ∀ x ∈ c.exceptionTable.toList, False) (hlocks : meth.locks = false) (hm : cells + mc ≤ mc' ∧ slots + ms ≤ ms') (hX : ∀ E, X E → X' E S0)
    (kk : ∀ (r : Int32) (S1 : σ) (H1 : Heap) (locs1 : List Loc), post r S1 → Cn A Hp Ev S1 s H1 locs1 → W p l e R s m args below meth c H1 locs1 (cells + mc) (slots + ms) (vx_MQ below Qc (Xg Hp A X') args s mc' ms' A) (F0 m (pc + 3) ls (.int r :: rest))) : W p l e R s m args below meth c H locs cells slots (vx_MQ below Qc (Xg Hp A X') args s mc' ms' A) (F0 m pc ls st0) := by
  subst hst
  exact vx_calli (vx_runV (As := As) (rest := rest) S hM (cwV n S.2.2.2.2 (vw_good hw) rfl hrm.1 hrm.2.1 ⟨rfl, hw.2⟩ hrm.2.2) (o_pre hO hC) rfl hn hsize rfl (lv_room hW) hdg hf) hC.2.2 (fun q _ h => h) (fun q h => h) (fun q _ h => h)
    (fun E ce q9 u t H1 locs1 ht hvm _ hB _ _ hS h1 h2 h3 => vx_out (fun x hx => (hnt x hx).elim) hlocks h1 h2 h3 (fun t' ht' hvm' => ⟨S0, trivial, ⟨hX E hB.1, by rw [ht', ← ht]; exact hB.2⟩, hS.F ht'⟩) hS.2.2 hm.1 hm.2)
    (fun r u t H1 locs1 ht hvm hp hB _ _ hS => kk r u H1 locs1 hp ⟨hC.1, by rw [← ht]; exact hB, hS⟩)
theorem o_ycalll (hO : OI y.cls b A Hp Ev) (S : CallFix p m c cc nL s args WA own) (hC : Cn A Hp Ev S0 s H locs) {post : Int64 → σ → Prop} {X : String → Prop} {X' : String → σ → Prop} {Qc : Array Value → State → Outcome → State → Prop} (hM : vx_Met l y (wsM y bytes maxL ret) rm (PcO Hp Ev S0 (.ref b :: As)) (va_Ql post (fun S' t => Hp S' t.heap) A) (Xc Hp S0 A X) mc ms A) (hw : VW own idx y bytes maxL ret n) (hrm : RmOk rm R maxL mc ms) (hn : As.length = n) (hsize : ls.size = nL) (hst : st0 = As.reverse ++ .ref b :: rest) (hW : (rest.map fun v => v.category).sum ≤ 8) (hdg : decode cc pc = .ok (.invokevirtual idx, 3)) (hf : cells + mc ≤ R.cells ∧ slots + ms ≤ R.slots)
    (hnt : ∀ x ∈ c.exceptionTable.toList, False) (hlocks : meth.locks = false) (hm : cells + mc ≤ mc' ∧ slots + ms ≤ ms') (hX : ∀ E, X E → X' E S0)
    (kk : ∀ (r : Int64) (S1 : σ) (H1 : Heap) (locs1 : List Loc), post r S1 → Cn A Hp Ev S1 s H1 locs1 → W p l e R s m args below meth c H1 locs1 (cells + mc) (slots + ms) (vx_MQ below Qc (Xg Hp A X') args s mc' ms' A) (F0 m (pc + 3) ls (.long r :: rest))) : W p l e R s m args below meth c H locs cells slots (vx_MQ below Qc (Xg Hp A X') args s mc' ms' A) (F0 m pc ls st0) := by
  subst hst
  exact vx_calll (vx_runV (As := As) (rest := rest) S hM (cwV n S.2.2.2.2 (vw_good hw) rfl hrm.1 hrm.2.1 ⟨rfl, hw.2⟩ hrm.2.2) (o_pre hO hC) rfl hn hsize rfl (lv_room hW) hdg hf) hC.2.2 (fun q _ h => h) (fun q h => h) (fun q _ h => h)
    (fun E ce q9 u t H1 locs1 ht hvm _ hB _ _ hS h1 h2 h3 => vx_out (fun x hx => (hnt x hx).elim) hlocks h1 h2 h3 (fun t' ht' hvm' => ⟨S0, trivial, ⟨hX E hB.1, by rw [ht', ← ht]; exact hB.2⟩, hS.F ht'⟩) hS.2.2 hm.1 hm.2)
    (fun r u t H1 locs1 ht hvm hp hB _ _ hS => kk r u H1 locs1 hp ⟨hC.1, by rw [← ht]; exact hB, hS⟩)
theorem o_ycallv (hO : OI y.cls b A Hp Ev) (S : CallFix p m c cc nL s args WA own) (hC : Cn A Hp Ev S0 s H locs) {post : σ → Prop} {X : String → Prop} {X' : String → σ → Prop} {Qc : Array Value → State → Outcome → State → Prop} (hM : vx_Met l y (wsM y bytes maxL ret) rm (PcO Hp Ev S0 (.ref b :: As)) (va_Qv post (fun S' t => Hp S' t.heap) A) (Xc Hp S0 A X) mc ms A) (hw : VW own idx y bytes maxL ret n) (hrm : RmOk rm R maxL mc ms) (hn : As.length = n) (hsize : ls.size = nL) (hst : st0 = As.reverse ++ .ref b :: rest) (hW : (rest.map fun v => v.category).sum ≤ 8) (hdg : decode cc pc = .ok (.invokevirtual idx, 3)) (hf : cells + mc ≤ R.cells ∧ slots + ms ≤ R.slots)
    (hnt : ∀ x ∈ c.exceptionTable.toList, False) (hlocks : meth.locks = false) (hm : cells + mc ≤ mc' ∧ slots + ms ≤ ms') (hX : ∀ E, X E → X' E S0)
    (kk : ∀ (S1 : σ) (H1 : Heap) (locs1 : List Loc), post S1 → Cn A Hp Ev S1 s H1 locs1 → W p l e R s m args below meth c H1 locs1 (cells + mc) (slots + ms) (vx_MQ below Qc (Xg Hp A X') args s mc' ms' A) (F0 m (pc + 3) ls rest)) : W p l e R s m args below meth c H locs cells slots (vx_MQ below Qc (Xg Hp A X') args s mc' ms' A) (F0 m pc ls st0) := by
  subst hst
  exact vx_callv (vx_runV (As := As) (rest := rest) S hM (cwV n S.2.2.2.2 (vw_good hw) rfl hrm.1 hrm.2.1 ⟨rfl, hw.2⟩ hrm.2.2) (o_pre hO hC) rfl hn hsize rfl (lv_room hW) hdg hf) hC.2.2 (fun q _ h => h) (fun q h => h) (fun q _ h => h)
    (fun E ce q9 u t H1 locs1 ht hvm _ hB _ _ hS h1 h2 h3 => vx_out (fun x hx => (hnt x hx).elim) hlocks h1 h2 h3 (fun t' ht' hvm' => ⟨S0, trivial, ⟨hX E hB.1, by rw [ht', ← ht]; exact hB.2⟩, hS.F ht'⟩) hS.2.2 hm.1 hm.2)
    (fun u t H1 locs1 ht hvm hp hB _ _ hS => kk u H1 locs1 hp ⟨hC.1, by rw [← ht]; exact hB, hS⟩)
end OG
section XV
variable {p : Program} {l : Launch} {e : Env} {R : Room} {s : State} {m : MethodId} {args : Array Value} {below : List Frame} {meth : Method} {c : Code} {H : Heap} {locs : List Loc} {cells slots : Nat} {Q : State → Prop}
variable {cc : ByteArray} {pc nL : Nat} {ls : Array Slot} {rest : List Value} {loc : Nat → Nat} {n : Nat} {g : Gc} {S0 : RS} {Qc : Array Value → State → Outcome → State → Prop} {X : String → RS → Prop} {mc ms is : Nat} {tx : String}
theorem x_throw_nseG (hl : l.stackTraces = false) (S : CallFix p m c cc nL s args WA RX0) (hC : CX loc n g S0 s H locs) (hs : (is, tx) ∈ strsX) (hnt : ∀ x ∈ c.exceptionTable.toList, False) (hlocks : meth.locks = false) (hsz : ls.size = nL) (hX : X "java/util/NoSuchElementException" S0)
    (d0 : decode cc pc = .ok (.new 144, 3)) (d3 : decode cc (pc + 3) = .ok (.dup, 1)) (d4 : decode cc (pc + 4) = .ok (.ldc is, 2)) (d6 : decode cc (pc + 6) = .ok (.invokespecial 148, 3)) (d9 : decode cc (pc + 9) = .ok (.athrow, 1))
    (hR : 5 < R.frames ∧ (rest.map fun v => v.category).sum + 82 ≤ R.locals ∧ cells + 1 ≤ R.cells ∧ slots + 6 ≤ R.slots) (hm : cells + 1 ≤ mc ∧ slots + 6 ≤ ms) : W p l e R s m args below meth c H locs cells slots (vx_MQ below Qc (Xg (HX loc n g) (ZA loc 21) X) args s mc ms (ZA loc 21)) (F0 m pc ls rest) := by
  obtain ⟨⟨hK, ⟨h4, hU, hN, hst⟩, hJ⟩, hH, hS⟩ := hC
  obtain ⟨sa, hsa⟩ := hst _ hs
  exact y_throw (by decide +kernel) (by decide +kernel) (by decide +kernel) (by decide +kernel) (by decide) (cls := "java/util/NoSuchElementException") (YY := "java/lang/RuntimeException") (i1 := 13) (b1 := prog_22_method_4_code) (names := ["java/lang/Exception"]) (ik := 144) (ic := 148) S.1 S.2.1 hl S.2.2.2.1 (by decide) (by decide) (S.2.2.2.2 _ w_147) (S.2.2.2.2 _ w_148) hsa (vx_hat (fun w hw => S.2.2.2.2 w (xw_nse w hw)) (B := xwN) (by decide +kernel) (fun w hw => va_Nw.use (nw_tab hw) (h4 w hw))) (by decide +kernel) hU hN hS (hsz.trans S.2.2.1.symm) d0 d3 d4 d6 d9 (fun x hx => (hnt x hx).elim) hR.1 hR.2.1 hR.2.2.1 hR.2.2.2 hlocks
    (fun t hvm hz hk => ⟨S0, trivial, ⟨hX, hH.kept (fun i hi => by
      have hi2 : loc i < H.size := by
        rcases Nat.eq_zero_or_pos i with h0 | h0
        · subst h0
          obtain ⟨cell, q1, -⟩ := hH.1
          exact (Array.getElem?_eq_some_iff.mp q1).1
        · have q1 := hH.2 (i - 1) (by omega)
          rw [show i - 1 + 1 = i by omega] at q1
          exact (Array.getElem?_eq_some_iff.mp q1).1
      exact hk _ hi2)⟩, ⟨Nat.le_trans hS.1 hz, fun q h1 h2 => by rw [hk q (Nat.lt_of_lt_of_le h1 hS.1)]; exact hS.2.1 q h1 h2⟩⟩) hS.2.2 hm.1 hm.2
end XV
abbrev GXi (l : Launch) (y : MethodName) (cc : ByteArray) (maxL : Nat) (ret : Option FieldType) (rm : Room) (loc : Nat → Nat) (n : Nat) (g : Gc) (S0 : RS) (As : List Value) (post : Int32 → RS → Prop) (X : String → RS → Prop) : Prop :=
  vx_Met l y (wsM y cc maxL ret) rm (PcO (HX loc n g) (EvX loc g) S0 (.ref (loc 0) :: As)) (va_Qi post (fun S' t => HX loc n g S' t.heap) (ZA loc 21)) (Xg (HX loc n g) (ZA loc 21) X) rm.cells rm.slots (ZA loc 21)
end
section
def pairsF (S : RS) (r : Nat) : Nat → Int32
  | 0 => nI 0
  | k + 1 => pairsF S r k + popL (S.2.2 r k)
set_option maxRecDepth 100000 in
set_option maxHeartbeats 4000000 in
theorem c_X0_pairsOf (l : Launch) {loc : Nat → Nat} {n : Nat} {g : Gc} (hn : n ≤ 40) {S0 : RS} {r : Nat} (hr12 : r < 12) : MXi l yX0_pairsOf cX0_pairsOf 4 (some .int) (rmL 2 0 0) loc n g S0 [.int (nI r)] (fun v S' => S' = S0 ∧ v = pairsF S0 r n) := by
  refine o_enter (by decide) (Nat.le_of_ble_eq_true rfl) ?_
  intro p e s m below meth c ls S hr hlocks hC hl
  refine lv_iconst (v := nI 0) S.1 S.2.1 dX0_pairsOf_0 rfl ?_
  refine lv_istore_n S.1 S.2.1 dX0_pairsOf_1 rfl hl (by decide) rfl (fun ls hl => ?_)
  refine lv_iconst (v := nI 0) S.1 S.2.1 dX0_pairsOf_2 rfl ?_
  refine lv_istore_n S.1 S.2.1 dX0_pairsOf_3 rfl hl (by decide) rfl (fun ls hl => ?_)
  have loop : ∀ (k i : Nat), n - i < k → i ≤ n → ∀ (H : Heap) (locs : List Loc) (ls : Array Slot), CX loc n g (S0) s H locs → lv_has ls 4 [(0, .ref (loc 0)), (1, .int (nI r)), (2, .int (pairsF S0 r i)), (3, .int (nI i))] → W p l e (rmL 2 0 0) s m ([.ref (loc 0), .int (nI r)] : List Value).toArray below meth c H locs 0 0 (MQ below (va_Qi (fun v S' => S' = S0 ∧ v = pairsF S0 r n) (fun S' t => HX loc n g S' t.heap) (ZA loc 21)) ([.ref (loc 0), .int (nI r)] : List Value).toArray s (rmL 2 0 0).cells (rmL 2 0 0).slots (ZA loc 21)) (F0 m 4 ls []) := by
    intro k
    induction k with
    | zero => intro i hk; omega
    | succ k ih =>
      intro i hk hi  H locs ls hC hl
      refine lv_iload_n S.1 S.2.1 dX0_pairsOf_4 rfl (lv_at hl 3 rfl) ?_
      refine lv_aload_n S.1 S.2.1 dX0_pairsOf_5 rfl (lv_at hl 0 rfl) ?_
      refine x_get_things S hC dX0_pairsOf_6 ?_
      refine n_icmp_ge (tgt := 32) S.1 S.2.1 dX0_pairsOf_9 (by decide) (by omega) (by omega) (fun c9 => ?_) (fun c9 => ?_)
      · skip
        refine lv_iload_n S.1 S.2.1 dX0_pairsOf_32 rfl (lv_at hl 2 rfl) ?_
        exact o_iret S hr hlocks hC ⟨rfl, by rw [show n = i by omega]⟩ rfl dX0_pairsOf_33 (Nat.le_of_ble_eq_true rfl) (Nat.le_of_ble_eq_true rfl)
      · skip
        refine lv_iload_n S.1 S.2.1 dX0_pairsOf_12 rfl (lv_at hl 2 rfl) ?_
        refine lv_aload_n S.1 S.2.1 dX0_pairsOf_13 rfl (lv_at hl 0 rfl) ?_
        refine x_get_rows S hC dX0_pairsOf_14 ?_
        refine lv_iload_n S.1 S.2.1 dX0_pairsOf_17 rfl (lv_at hl 1 rfl) ?_
        refine x_aald S hC hr12 dX0_pairsOf_18 ?_
        refine lv_iload_n S.1 S.2.1 dX0_pairsOf_19 rfl (lv_at hl 3 rfl) ?_
        refine x_lld S hC hn hr12 (show i < n by omega) dX0_pairsOf_20 ?_
        refine s_calli S (c_J13_bitCount_95d88 l _) cw_RX0_J13_bitCount_95d88 ⟨rfl, rfl, by decide, by decide⟩ rfl hl.1 rfl (Nat.le_of_ble_eq_true rfl) dX0_pairsOf_21 ⟨(Nat.le_of_ble_eq_true rfl), (Nat.le_of_ble_eq_true rfl)⟩ (fun r21 hp => ?_)
        subst hp
        refine lv_iadd S.1 S.2.1 dX0_pairsOf_24 ?_
        refine lv_istore_n S.1 S.2.1 dX0_pairsOf_25 rfl hl (by decide) rfl (fun ls hl => ?_)
        refine lv_iinc (k := 3) S.1 S.2.1 dX0_pairsOf_26 hl rfl (n_inc _) (by decide) rfl (fun ls hl => ?_)
        refine lv_goto (tgt := 4) S.1 S.2.1 dX0_pairsOf_29 (by decide) ?_
        exact ih (i + 1) (by omega) (by omega) _ _ _ hC (lv_sub hl [2, 3, 1, 0] rfl)
  exact loop (n + 1) 0 (by omega) (by omega) _ _ _ hC (lv_sub hl [2, 3, 1, 0] rfl)
def lowF (v : Int64) : Nat → Int64
  | 0 => v
  | k + 1 => lowF v k &&& (lowF v k - 1)
def pickW (v : Int64) (i : Int32) : Bool := inI i (popL v)
set_option maxRecDepth 100000 in
set_option maxHeartbeats 4000000 in
theorem c_X0_pick (l : Launch) (hs0 : l.stackTraces = false) {loc : Nat → Nat} {n : Nat} {g : Gc} (hn : n ≤ 40) {S0 : RS} (v : Int64) (i0 : Int32) : TXi l yX0_pick cX0_pick 7 (some .int) (rmL 7 1 6) loc n g S0 [.long v, .int i0] (fun q S' => S' = S0 ∧ pickW v i0 = true ∧ q = ntzL (lowF v (ixN i0))) (fun E => E = nseS ∧ pickW v i0 = false) := by
  refine o_enterx (by decide) (Nat.le_of_ble_eq_true rfl) ?_
  intro p e s m below meth c ls S hr hlocks hnt hC hl
  refine lv_iload_n S.1 S.2.1 dX0_pick_0 rfl (lv_at hl 2 rfl) ?_
  refine lv_if_lt (tgt := 12) S.1 S.2.1 dX0_pick_1 (by decide) (fun c1 => ?_) (fun c1 => ?_)
  · skip
    exact x_throw_nse (tx := "there are not so many") hs0 S hC (by decide) hnt hlocks hl.1 ⟨rfl, by simp [pickW, inI, c1]⟩ dX0_pick_12 dX0_pick_15 dX0_pick_16 dX0_pick_18 dX0_pick_21 ⟨(Nat.le_of_ble_eq_true rfl), (Nat.le_of_ble_eq_true rfl), (Nat.le_of_ble_eq_true rfl), (Nat.le_of_ble_eq_true rfl)⟩ ⟨(Nat.le_of_ble_eq_true rfl), (Nat.le_of_ble_eq_true rfl)⟩
  · skip
    refine lv_iload_n S.1 S.2.1 dX0_pick_4 rfl (lv_at hl 2 rfl) ?_
    refine lv_lload_n S.1 S.2.1 dX0_pick_5 rfl (lv_at hl 1 rfl) ?_
    refine s_calli S (c_J13_bitCount_95d88 l v) cw_RX0_J13_bitCount_95d88 ⟨rfl, rfl, by decide, by decide⟩ rfl hl.1 rfl (Nat.le_of_ble_eq_true rfl) dX0_pick_6 ⟨(Nat.le_of_ble_eq_true rfl), (Nat.le_of_ble_eq_true rfl)⟩ (fun r6 hp => ?_)
    subst hp
    refine lv_icmp_lt (tgt := 22) S.1 S.2.1 dX0_pick_9 (by decide) (fun c9 => ?_) (fun c9 => ?_)
    · have hok : pickW v i0 = true := by simp [pickW, inI, c1, c9]
      obtain ⟨b, hb31, e0⟩ := nI_of c1
      rw [e0] at hl
      refine lv_lload_n S.1 S.2.1 dX0_pick_22 rfl (lv_at hl 1 rfl) ?_
      refine lv_lstore S.1 S.2.1 dX0_pick_23 hl (by decide) rfl (fun ls hl => ?_)
      refine lv_iconst (v := nI 0) S.1 S.2.1 dX0_pick_25 rfl ?_
      refine lv_istore S.1 S.2.1 dX0_pick_26 hl (by decide) rfl (fun ls hl => ?_)
      have loop : ∀ (k i : Nat), b - i < k → i ≤ b → ∀ (H : Heap) (locs : List Loc) (ls : Array Slot), CX loc n g (S0) s H locs → lv_has ls 7 [(0, .ref (loc 0)), (1, .long v), (3, .int (nI b)), (4, .long (lowF v i)), (6, .int (nI i))] → W p l e (rmL 7 1 6) s m ([.ref (loc 0), .long v, .int i0] : List Value).toArray below meth c H locs 0 0 (vx_MQ below (va_Qi (fun q S' => S' = S0 ∧ pickW v i0 = true ∧ q = ntzL (lowF v (ixN i0))) (fun S' t => HX loc n g S' t.heap) (ZA loc 21)) (Xc (HX loc n g) S0 (ZA loc 21) (fun E => E = nseS ∧ pickW v i0 = false)) ([.ref (loc 0), .long v, .int i0] : List Value).toArray s (rmL 7 1 6).cells (rmL 7 1 6).slots (ZA loc 21)) (F0 m 28 ls []) := by
        intro k
        induction k with
        | zero => intro i hk; omega
        | succ k ih =>
          intro i hk hi  H locs ls hC hl
          refine lv_iload S.1 S.2.1 dX0_pick_28 (lv_at hl 4 rfl) ?_
          refine lv_iload_n S.1 S.2.1 dX0_pick_30 rfl (lv_at hl 2 rfl) ?_
          refine n_icmp_ge (tgt := 49) S.1 S.2.1 dX0_pick_31 (by decide) (by omega) (by omega) (fun c31 => ?_) (fun c31 => ?_)
          · skip
            refine lv_lload S.1 S.2.1 dX0_pick_49 (lv_at hl 3 rfl) ?_
            refine s_calli S (c_J13_numberOfTrailingZeros_95d88 l _) cw_RX0_J13_numberOfTrailingZeros_95d88 ⟨rfl, rfl, by decide, by decide⟩ rfl hl.1 rfl (Nat.le_of_ble_eq_true rfl) dX0_pick_51 ⟨(Nat.le_of_ble_eq_true rfl), (Nat.le_of_ble_eq_true rfl)⟩ (fun r51 hp => ?_)
            subst hp
            exact vx_ret (o_iret S hr hlocks hC ⟨rfl, hok, by rw [e0, ixN_nI hb31, show b = i by omega]⟩ rfl dX0_pick_54 (Nat.le_of_ble_eq_true rfl) (Nat.le_of_ble_eq_true rfl))
          · skip
            refine lv_lload S.1 S.2.1 dX0_pick_34 (lv_at hl 3 rfl) ?_
            refine lv_lload S.1 S.2.1 dX0_pick_36 (lv_at hl 3 rfl) ?_
            refine lv_lconst (v := 1) S.1 S.2.1 dX0_pick_38 rfl ?_
            refine lv_lsub S.1 S.2.1 dX0_pick_39 ?_
            refine lv_land S.1 S.2.1 dX0_pick_40 ?_
            refine lv_lstore S.1 S.2.1 dX0_pick_41 hl (by decide) rfl (fun ls hl => ?_)
            refine lv_iinc (k := 4) S.1 S.2.1 dX0_pick_43 hl rfl (n_inc _) (by decide) rfl (fun ls hl => ?_)
            refine lv_goto (tgt := 28) S.1 S.2.1 dX0_pick_46 (by decide) ?_
            exact ih (i + 1) (by omega) (by omega) _ _ _ hC (lv_sub hl [2, 3, 4, 1, 0] rfl)
      exact loop (b + 1) 0 (by omega) (by omega) _ _ _ hC (lv_sub hl [2, 3, 4, 1, 0] rfl)
    · skip
      exact x_throw_nse (tx := "there are not so many") hs0 S hC (by decide) hnt hlocks hl.1 ⟨rfl, by simp [pickW, inI, c9]⟩ dX0_pick_12 dX0_pick_15 dX0_pick_16 dX0_pick_18 dX0_pick_21 ⟨(Nat.le_of_ble_eq_true rfl), (Nat.le_of_ble_eq_true rfl), (Nat.le_of_ble_eq_true rfl), (Nat.le_of_ble_eq_true rfl)⟩ ⟨(Nat.le_of_ble_eq_true rfl), (Nat.le_of_ble_eq_true rfl)⟩
def kindW (S : RS) (n : Nat) (x k : Int32) : Option String :=
  if inI x (nI n) = false then some iaeS else if k < 0 ∨ ¬ k ≤ nI 3 then some iaeS else if ¬ S.1 0 ≤ 0 then some iseS else none
set_option maxRecDepth 100000 in
set_option maxHeartbeats 4000000 in
theorem c_X0_kind (l : Launch) (hs0 : l.stackTraces = false) {loc : Nat → Nat} {n : Nat} {g : Gc} (hn : n ≤ 40) {S0 : RS} (x k : Int32) : TXi l yX0_kind cX0_kind 4 (some .int) (rmL 9 8 48) loc n g S0 [.int x, .int k] (fun v S' => S' = sA S0 0 (ixN x) k ∧ kindW S0 n x k = none ∧ v = S0.2.1 0 (ixN x)) (fun E => kindW S0 n x k = some E) := by
  refine o_enterx (by decide) (Nat.le_of_ble_eq_true rfl) ?_
  intro p e s m below meth c ls S hr hlocks hnt hC hl
  refine lv_aload_n S.1 S.2.1 dX0_kind_0 rfl (lv_at hl 0 rfl) ?_
  refine lv_iload_n S.1 S.2.1 dX0_kind_1 rfl (lv_at hl 1 rfl) ?_
  refine o_xcallv oiX S hC (c_X0_needThing l hs0 hn x) cw_RX0_X0_needThing ⟨rfl, rfl, by decide, by decide⟩ rfl hl.1 rfl (Nat.le_of_ble_eq_true rfl) dX0_kind_2 ⟨(Nat.le_of_ble_eq_true rfl), (Nat.le_of_ble_eq_true rfl)⟩ hnt hlocks ⟨(Nat.le_of_ble_eq_true rfl), (Nat.le_of_ble_eq_true rfl)⟩ (fun E h => by simp [kindW, h.1, h.2]) (fun S1 H locs hp hC1 => ?_)
  obtain ⟨e1, hp⟩ := hp
  rw [e1] at hC1; replace hC := hC1
  have h1 := hp
  obtain ⟨a, ha, rfl⟩ := inI_t (by omega) h1
  have ea : ixN (nI a) = a := ixN_nI (by omega)
  refine lv_iload_n S.1 S.2.1 dX0_kind_5 rfl (lv_at hl 2 rfl) ?_
  refine lv_if_lt (tgt := 14) S.1 S.2.1 dX0_kind_6 (by decide) (fun c6 => ?_) (fun c6 => ?_)
  · skip
    exact x_throw_iae (tx := "no such kind") hs0 S hC (by decide) hnt hlocks hl.1 (by simp [kindW, h1, c6]) dX0_kind_14 dX0_kind_17 dX0_kind_18 dX0_kind_20 dX0_kind_23 ⟨(Nat.le_of_ble_eq_true rfl), (Nat.le_of_ble_eq_true rfl), (Nat.le_of_ble_eq_true rfl), (Nat.le_of_ble_eq_true rfl)⟩ ⟨(Nat.le_of_ble_eq_true rfl), (Nat.le_of_ble_eq_true rfl)⟩
  · skip
    refine lv_iload_n S.1 S.2.1 dX0_kind_9 rfl (lv_at hl 2 rfl) ?_
    refine lv_iconst (v := nI 3) S.1 S.2.1 dX0_kind_10 rfl ?_
    refine lv_icmp_le (tgt := 24) S.1 S.2.1 dX0_kind_11 (by decide) (fun c11 => ?_) (fun c11 => ?_)
    · skip
      refine lv_aload_n S.1 S.2.1 dX0_kind_24 rfl (lv_at hl 0 rfl) ?_
      refine x_get_relations S hC dX0_kind_25 ?_
      refine lv_if_le (tgt := 41) S.1 S.2.1 dX0_kind_28 (by decide) (fun c28 => ?_) (fun c28 => ?_)
      · skip
        refine lv_aload_n S.1 S.2.1 dX0_kind_41 rfl (lv_at hl 0 rfl) ?_
        refine x_get_kinds S hC dX0_kind_42 ?_
        refine lv_iload_n S.1 S.2.1 dX0_kind_45 rfl (lv_at hl 1 rfl) ?_
        refine x_ild S hC hn 0 (by decide) ha dX0_kind_46 ?_
        refine lv_istore_n S.1 S.2.1 dX0_kind_47 rfl hl (by decide) rfl (fun ls hl => ?_)
        refine lv_aload_n S.1 S.2.1 dX0_kind_48 rfl (lv_at hl 1 rfl) ?_
        refine x_get_kinds S hC dX0_kind_49 ?_
        refine lv_iload_n S.1 S.2.1 dX0_kind_52 rfl (lv_at hl 2 rfl) ?_
        refine lv_iload_n S.1 S.2.1 dX0_kind_53 rfl (lv_at hl 3 rfl) ?_
        refine x_ist S hC hn 0 (by decide) ha dX0_kind_54 (fun H locs hC => ?_)
        refine lv_iload_n S.1 S.2.1 dX0_kind_55 rfl (lv_at hl 0 rfl) ?_
        exact vx_ret (o_iret S hr hlocks hC ⟨by rw [ea], by simp [kindW, h1, c6, c11, c28], by rw [ea]⟩ rfl dX0_kind_56 (Nat.le_of_ble_eq_true rfl) (Nat.le_of_ble_eq_true rfl))
      · skip
        exact x_throw_ise (tx := "there are relations already") hs0 S hC (by decide) hnt hlocks hl.1 (by simp [kindW, h1, c6, c11, c28]) dX0_kind_31 dX0_kind_34 dX0_kind_35 dX0_kind_37 dX0_kind_40 ⟨(Nat.le_of_ble_eq_true rfl), (Nat.le_of_ble_eq_true rfl), (Nat.le_of_ble_eq_true rfl), (Nat.le_of_ble_eq_true rfl)⟩ ⟨(Nat.le_of_ble_eq_true rfl), (Nat.le_of_ble_eq_true rfl)⟩
    · skip
      exact x_throw_iae (tx := "no such kind") hs0 S hC (by decide) hnt hlocks hl.1 (by simp [kindW, h1, c11]) dX0_kind_14 dX0_kind_17 dX0_kind_18 dX0_kind_20 dX0_kind_23 ⟨(Nat.le_of_ble_eq_true rfl), (Nat.le_of_ble_eq_true rfl), (Nat.le_of_ble_eq_true rfl), (Nat.le_of_ble_eq_true rfl)⟩ ⟨(Nat.le_of_ble_eq_true rfl), (Nat.le_of_ble_eq_true rfl)⟩
def relW (S : RS) (f x y : Int32) : Option String :=
  if f < 0 ∨ ¬ f ≤ nI 6 then some iaeS else if kOk x = false then some iaeS else if kOk y = false then some iaeS else if ¬ f < nI 4 ∧ ¬ x = y then some iaeS else if xFull S = true then some iseS else none
set_option maxRecDepth 100000 in
set_option maxHeartbeats 4000000 in
theorem c_X0_relation (l : Launch) (hs0 : l.stackTraces = false) {loc : Nat → Nat} {n : Nat} {g : Gc} (hn : n ≤ 40) {S0 : RS} {R : Nat} (hR : R ≤ 12) (hrel : S0.1 0 = nI R) (f x y : Int32) : TXi l yX0_relation cX0_relation 5 (some .int) (rmL 9 8 48) loc n g S0 [.int f, .int x, .int y] (fun v S' => S' = startF (addRel S0 R f x y) R n ∧ relW S0 f x y = none ∧ v = nI R) (fun E => relW S0 f x y = some E) := by
  refine o_enterx (by decide) (Nat.le_of_ble_eq_true rfl) ?_
  intro p e s m below meth c ls S hr hlocks hnt hC hl
  refine lv_iload_n S.1 S.2.1 dX0_relation_0 rfl (lv_at hl 1 rfl) ?_
  refine lv_if_lt (tgt := 10) S.1 S.2.1 dX0_relation_1 (by decide) (fun c1 => ?_) (fun c1 => ?_)
  · skip
    exact x_throw_iae (tx := "no such form") hs0 S hC (by decide) hnt hlocks hl.1 (by simp [relW, c1]) dX0_relation_10 dX0_relation_13 dX0_relation_14 dX0_relation_16 dX0_relation_19 ⟨(Nat.le_of_ble_eq_true rfl), (Nat.le_of_ble_eq_true rfl), (Nat.le_of_ble_eq_true rfl), (Nat.le_of_ble_eq_true rfl)⟩ ⟨(Nat.le_of_ble_eq_true rfl), (Nat.le_of_ble_eq_true rfl)⟩
  · skip
    refine lv_iload_n S.1 S.2.1 dX0_relation_4 rfl (lv_at hl 1 rfl) ?_
    refine lv_bipush (v := nI 6) S.1 S.2.1 dX0_relation_5 rfl ?_
    refine lv_icmp_le (tgt := 20) S.1 S.2.1 dX0_relation_7 (by decide) (fun c7 => ?_) (fun c7 => ?_)
    · skip
      refine lv_aload_n S.1 S.2.1 dX0_relation_20 rfl (lv_at hl 0 rfl) ?_
      refine lv_iload_n S.1 S.2.1 dX0_relation_21 rfl (lv_at hl 2 rfl) ?_
      refine o_xcallv oiX S hC (c_X0_needKindOrNone l hs0 hn x) cw_RX0_X0_needKindOrNone ⟨rfl, rfl, by decide, by decide⟩ rfl hl.1 rfl (Nat.le_of_ble_eq_true rfl) dX0_relation_22 ⟨(Nat.le_of_ble_eq_true rfl), (Nat.le_of_ble_eq_true rfl)⟩ hnt hlocks ⟨(Nat.le_of_ble_eq_true rfl), (Nat.le_of_ble_eq_true rfl)⟩ (fun E h => by simp [relW, c1, c7, h.1, h.2]) (fun S1 H locs hp hC1 => ?_)
      obtain ⟨e1, hp⟩ := hp
      rw [e1] at hC1; replace hC := hC1
      have h1 := hp
      refine lv_aload_n S.1 S.2.1 dX0_relation_25 rfl (lv_at hl 0 rfl) ?_
      refine lv_iload_n S.1 S.2.1 dX0_relation_26 rfl (lv_at hl 3 rfl) ?_
      refine o_xcallv oiX S hC (c_X0_needKindOrNone l hs0 hn y) cw_RX0_X0_needKindOrNone ⟨rfl, rfl, by decide, by decide⟩ rfl hl.1 rfl (Nat.le_of_ble_eq_true rfl) dX0_relation_27 ⟨(Nat.le_of_ble_eq_true rfl), (Nat.le_of_ble_eq_true rfl)⟩ hnt hlocks ⟨(Nat.le_of_ble_eq_true rfl), (Nat.le_of_ble_eq_true rfl)⟩ (fun E h => by simp [relW, c1, c7, h1, h.1, h.2]) (fun S1 H locs hp hC1 => ?_)
      obtain ⟨e1, hp⟩ := hp
      rw [e1] at hC1; replace hC := hC1
      have h2 := hp
      refine lv_iload_n S.1 S.2.1 dX0_relation_30 rfl (lv_at hl 1 rfl) ?_
      refine lv_iconst (v := nI 4) S.1 S.2.1 dX0_relation_31 rfl ?_
      refine lv_icmp_lt (tgt := 50) S.1 S.2.1 dX0_relation_32 (by decide) (fun c32 => ?_) (fun c32 => ?_)
      · skip
        refine lv_aload_n S.1 S.2.1 dX0_relation_50 rfl (lv_at hl 0 rfl) ?_
        refine o_xcallv oiX S hC (c_X0_needRoomForRelation l hs0 hn) cw_RX0_X0_needRoomForRelation ⟨rfl, rfl, by decide, by decide⟩ rfl hl.1 rfl (Nat.le_of_ble_eq_true rfl) dX0_relation_51 ⟨(Nat.le_of_ble_eq_true rfl), (Nat.le_of_ble_eq_true rfl)⟩ hnt hlocks ⟨(Nat.le_of_ble_eq_true rfl), (Nat.le_of_ble_eq_true rfl)⟩ (fun E h => by simp [relW, c1, c7, h1, h2, c32, h.1, h.2]) (fun S1 H locs hp hC1 => ?_)
        obtain ⟨e1, hp⟩ := hp
        rw [e1] at hC1; replace hC := hC1
        have h3 := hp
        have hR12 : R < 12 := by simp only [xFull, decide_eq_false_iff_not, Classical.not_not, hrel] at h3; exact (nI_ltI (by omega) (by omega)).mp h3
        refine lv_aload_n S.1 S.2.1 dX0_relation_54 rfl (lv_at hl 0 rfl) ?_
        refine lv_iload_n S.1 S.2.1 dX0_relation_55 rfl (lv_at hl 1 rfl) ?_
        refine lv_iload_n S.1 S.2.1 dX0_relation_56 rfl (lv_at hl 2 rfl) ?_
        refine lv_iload_n S.1 S.2.1 dX0_relation_57 rfl (lv_at hl 3 rfl) ?_
        refine o_calli oiX S hC (c_X0_addRelation l hn hR12 hrel f x y) cw_RX0_X0_addRelation ⟨rfl, rfl, by decide, by decide⟩ rfl hl.1 rfl (Nat.le_of_ble_eq_true rfl) dX0_relation_58 ⟨(Nat.le_of_ble_eq_true rfl), (Nat.le_of_ble_eq_true rfl)⟩ (fun r58 S1 H locs hp hC1 => ?_)
        obtain ⟨e1, hp⟩ := hp
        rw [e1] at hC1; replace hC := hC1
        subst hp
        refine lv_istore S.1 S.2.1 dX0_relation_61 hl (by decide) rfl (fun ls hl => ?_)
        refine lv_aload_n S.1 S.2.1 dX0_relation_63 rfl (lv_at hl 1 rfl) ?_
        refine lv_iload S.1 S.2.1 dX0_relation_64 (lv_at hl 0 rfl) ?_
        refine o_callv oiX S hC (c_X0_startRows l hn hR12) cw_RX0_X0_startRows ⟨rfl, rfl, by decide, by decide⟩ rfl hl.1 rfl (Nat.le_of_ble_eq_true rfl) dX0_relation_66 ⟨(Nat.le_of_ble_eq_true rfl), (Nat.le_of_ble_eq_true rfl)⟩ (fun S1 H locs hp hC1 => ?_)
        have e1 := hp
        rw [e1] at hC1; replace hC := hC1
        refine lv_iload S.1 S.2.1 dX0_relation_69 (lv_at hl 0 rfl) ?_
        exact vx_ret (o_iret S hr hlocks hC ⟨rfl, by simp [relW, c1, c7, h1, h2, c32, h3], rfl⟩ rfl dX0_relation_71 (Nat.le_of_ble_eq_true rfl) (Nat.le_of_ble_eq_true rfl))
      · skip
        refine lv_iload_n S.1 S.2.1 dX0_relation_35 rfl (lv_at hl 2 rfl) ?_
        refine lv_iload_n S.1 S.2.1 dX0_relation_36 rfl (lv_at hl 3 rfl) ?_
        refine lv_icmp_eq (tgt := 50) S.1 S.2.1 dX0_relation_37 (by decide) (fun c37 => ?_) (fun c37 => ?_)
        · skip
          refine lv_aload_n S.1 S.2.1 dX0_relation_50 rfl (lv_at hl 0 rfl) ?_
          refine o_xcallv oiX S hC (c_X0_needRoomForRelation l hs0 hn) cw_RX0_X0_needRoomForRelation ⟨rfl, rfl, by decide, by decide⟩ rfl hl.1 rfl (Nat.le_of_ble_eq_true rfl) dX0_relation_51 ⟨(Nat.le_of_ble_eq_true rfl), (Nat.le_of_ble_eq_true rfl)⟩ hnt hlocks ⟨(Nat.le_of_ble_eq_true rfl), (Nat.le_of_ble_eq_true rfl)⟩ (fun E h => by simp [relW, c1, c7, h1, h2, c37, h.1, h.2]) (fun S1 H locs hp hC1 => ?_)
          obtain ⟨e1, hp⟩ := hp
          rw [e1] at hC1; replace hC := hC1
          have h3 := hp
          have hR12 : R < 12 := by simp only [xFull, decide_eq_false_iff_not, Classical.not_not, hrel] at h3; exact (nI_ltI (by omega) (by omega)).mp h3
          refine lv_aload_n S.1 S.2.1 dX0_relation_54 rfl (lv_at hl 0 rfl) ?_
          refine lv_iload_n S.1 S.2.1 dX0_relation_55 rfl (lv_at hl 1 rfl) ?_
          refine lv_iload_n S.1 S.2.1 dX0_relation_56 rfl (lv_at hl 2 rfl) ?_
          refine lv_iload_n S.1 S.2.1 dX0_relation_57 rfl (lv_at hl 3 rfl) ?_
          refine o_calli oiX S hC (c_X0_addRelation l hn hR12 hrel f x y) cw_RX0_X0_addRelation ⟨rfl, rfl, by decide, by decide⟩ rfl hl.1 rfl (Nat.le_of_ble_eq_true rfl) dX0_relation_58 ⟨(Nat.le_of_ble_eq_true rfl), (Nat.le_of_ble_eq_true rfl)⟩ (fun r58 S1 H locs hp hC1 => ?_)
          obtain ⟨e1, hp⟩ := hp
          rw [e1] at hC1; replace hC := hC1
          subst hp
          refine lv_istore S.1 S.2.1 dX0_relation_61 hl (by decide) rfl (fun ls hl => ?_)
          refine lv_aload_n S.1 S.2.1 dX0_relation_63 rfl (lv_at hl 1 rfl) ?_
          refine lv_iload S.1 S.2.1 dX0_relation_64 (lv_at hl 0 rfl) ?_
          refine o_callv oiX S hC (c_X0_startRows l hn hR12) cw_RX0_X0_startRows ⟨rfl, rfl, by decide, by decide⟩ rfl hl.1 rfl (Nat.le_of_ble_eq_true rfl) dX0_relation_66 ⟨(Nat.le_of_ble_eq_true rfl), (Nat.le_of_ble_eq_true rfl)⟩ (fun S1 H locs hp hC1 => ?_)
          have e1 := hp
          rw [e1] at hC1; replace hC := hC1
          refine lv_iload S.1 S.2.1 dX0_relation_69 (lv_at hl 0 rfl) ?_
          exact vx_ret (o_iret S hr hlocks hC ⟨rfl, by simp [relW, c1, c7, h1, h2, c37, h3], rfl⟩ rfl dX0_relation_71 (Nat.le_of_ble_eq_true rfl) (Nat.le_of_ble_eq_true rfl))
        · skip
          exact x_throw_iae (tx := "this form has like kinds") hs0 S hC (by decide) hnt hlocks hl.1 (by simp [relW, c1, c7, h1, h2, c32, c37]) dX0_relation_40 dX0_relation_43 dX0_relation_44 dX0_relation_46 dX0_relation_49 ⟨(Nat.le_of_ble_eq_true rfl), (Nat.le_of_ble_eq_true rfl), (Nat.le_of_ble_eq_true rfl), (Nat.le_of_ble_eq_true rfl)⟩ ⟨(Nat.le_of_ble_eq_true rfl), (Nat.le_of_ble_eq_true rfl)⟩
    · skip
      exact x_throw_iae (tx := "no such form") hs0 S hC (by decide) hnt hlocks hl.1 (by simp [relW, c7]) dX0_relation_10 dX0_relation_13 dX0_relation_14 dX0_relation_16 dX0_relation_19 ⟨(Nat.le_of_ble_eq_true rfl), (Nat.le_of_ble_eq_true rfl), (Nat.le_of_ble_eq_true rfl), (Nat.le_of_ble_eq_true rfl)⟩ ⟨(Nat.le_of_ble_eq_true rfl), (Nat.le_of_ble_eq_true rfl)⟩
def condW (S : RS) (c0 x y : Int32) : Option String :=
  if c0 < 0 ∨ ¬ c0 ≤ nI 5 then some iaeS else if inI x (S.1 0) = false then some iaeS else if two2 c0 = true ∧ inI y (S.1 0) = false then some iaeS else if two2 c0 = false ∧ ¬ y = -1 then some iaeS else if xFull S = true then some iseS else none
set_option maxRecDepth 100000 in
set_option maxHeartbeats 4000000 in
theorem c_X0_condition (l : Launch) (hs0 : l.stackTraces = false) {loc : Nat → Nat} {n : Nat} {g : Gc} (hn : n ≤ 40) {S0 : RS} {R : Nat} (hR : R ≤ 12) (hrel : S0.1 0 = nI R) (c0 x y : Int32) : TXi l yX0_condition cX0_condition 4 (some .int) (rmL 9 8 48) loc n g S0 [.int c0, .int x, .int y] (fun v S' => S' = addRel S0 R (nI 10 + c0) x y ∧ condW S0 c0 x y = none ∧ v = nI R) (fun E => condW S0 c0 x y = some E) := by
  refine o_enterx (by decide) (Nat.le_of_ble_eq_true rfl) ?_
  intro p e s m below meth c ls S hr hlocks hnt hC hl
  refine lv_iload_n S.1 S.2.1 dX0_condition_0 rfl (lv_at hl 1 rfl) ?_
  refine lv_if_lt (tgt := 9) S.1 S.2.1 dX0_condition_1 (by decide) (fun c1 => ?_) (fun c1 => ?_)
  · skip
    exact x_throw_iae (tx := "no such condition") hs0 S hC (by decide) hnt hlocks hl.1 (by simp [condW, c1]) dX0_condition_9 dX0_condition_12 dX0_condition_13 dX0_condition_15 dX0_condition_18 ⟨(Nat.le_of_ble_eq_true rfl), (Nat.le_of_ble_eq_true rfl), (Nat.le_of_ble_eq_true rfl), (Nat.le_of_ble_eq_true rfl)⟩ ⟨(Nat.le_of_ble_eq_true rfl), (Nat.le_of_ble_eq_true rfl)⟩
  · skip
    refine lv_iload_n S.1 S.2.1 dX0_condition_4 rfl (lv_at hl 1 rfl) ?_
    refine lv_iconst (v := nI 5) S.1 S.2.1 dX0_condition_5 rfl ?_
    refine lv_icmp_le (tgt := 19) S.1 S.2.1 dX0_condition_6 (by decide) (fun c6 => ?_) (fun c6 => ?_)
    · skip
      refine lv_aload_n S.1 S.2.1 dX0_condition_19 rfl (lv_at hl 0 rfl) ?_
      refine lv_iload_n S.1 S.2.1 dX0_condition_20 rfl (lv_at hl 2 rfl) ?_
      refine o_xcallv oiX S hC (c_X0_needRelation l hs0 hn x) cw_RX0_X0_needRelation ⟨rfl, rfl, by decide, by decide⟩ rfl hl.1 rfl (Nat.le_of_ble_eq_true rfl) dX0_condition_21 ⟨(Nat.le_of_ble_eq_true rfl), (Nat.le_of_ble_eq_true rfl)⟩ hnt hlocks ⟨(Nat.le_of_ble_eq_true rfl), (Nat.le_of_ble_eq_true rfl)⟩ (fun E h => by simp [condW, c1, c6, h.1, h.2]) (fun S1 H locs hp hC1 => ?_)
      obtain ⟨e1, hp⟩ := hp
      rw [e1] at hC1; replace hC := hC1
      have h1 := hp
      refine lv_iload_n S.1 S.2.1 dX0_condition_24 rfl (lv_at hl 1 rfl) ?_
      refine s_calli S (c_X0_takesTwo l c0) cw_RX0_X0_takesTwo ⟨rfl, rfl, by decide, by decide⟩ rfl hl.1 rfl (Nat.le_of_ble_eq_true rfl) dX0_condition_25 ⟨(Nat.le_of_ble_eq_true rfl), (Nat.le_of_ble_eq_true rfl)⟩ (fun r25 hp => ?_)
      subst hp
      refine b_if_eq (tgt := 39) S.1 S.2.1 dX0_condition_28 (by decide) (fun c28 => ?_) (fun c28 => ?_)
      · skip
        refine lv_iload_n S.1 S.2.1 dX0_condition_39 rfl (lv_at hl 3 rfl) ?_
        refine lv_iconst (v := -1) S.1 S.2.1 dX0_condition_40 rfl ?_
        refine lv_icmp_eq (tgt := 54) S.1 S.2.1 dX0_condition_41 (by decide) (fun c41 => ?_) (fun c41 => ?_)
        · skip
          refine lv_aload_n S.1 S.2.1 dX0_condition_54 rfl (lv_at hl 0 rfl) ?_
          refine o_xcallv oiX S hC (c_X0_needRoomForRelation l hs0 hn) cw_RX0_X0_needRoomForRelation ⟨rfl, rfl, by decide, by decide⟩ rfl hl.1 rfl (Nat.le_of_ble_eq_true rfl) dX0_condition_55 ⟨(Nat.le_of_ble_eq_true rfl), (Nat.le_of_ble_eq_true rfl)⟩ hnt hlocks ⟨(Nat.le_of_ble_eq_true rfl), (Nat.le_of_ble_eq_true rfl)⟩ (fun E h => by simp [condW, c1, c6, h1, c28, c41, h.1, h.2]) (fun S1 H locs hp hC1 => ?_)
          obtain ⟨e1, hp⟩ := hp
          rw [e1] at hC1; replace hC := hC1
          have h3 := hp
          have hR12 : R < 12 := by simp only [xFull, decide_eq_false_iff_not, Classical.not_not, hrel] at h3; exact (nI_ltI (by omega) (by omega)).mp h3
          refine lv_aload_n S.1 S.2.1 dX0_condition_58 rfl (lv_at hl 0 rfl) ?_
          refine lv_bipush (v := nI 10) S.1 S.2.1 dX0_condition_59 rfl ?_
          refine lv_iload_n S.1 S.2.1 dX0_condition_61 rfl (lv_at hl 1 rfl) ?_
          refine lv_iadd S.1 S.2.1 dX0_condition_62 ?_
          refine lv_iload_n S.1 S.2.1 dX0_condition_63 rfl (lv_at hl 2 rfl) ?_
          refine lv_iload_n S.1 S.2.1 dX0_condition_64 rfl (lv_at hl 3 rfl) ?_
          refine o_calli oiX S hC (c_X0_addRelation l hn hR12 hrel _ x y) cw_RX0_X0_addRelation ⟨rfl, rfl, by decide, by decide⟩ rfl hl.1 rfl (Nat.le_of_ble_eq_true rfl) dX0_condition_65 ⟨(Nat.le_of_ble_eq_true rfl), (Nat.le_of_ble_eq_true rfl)⟩ (fun r65 S1 H locs hp hC1 => ?_)
          obtain ⟨e1, hp⟩ := hp
          rw [e1] at hC1; replace hC := hC1
          subst hp
          exact vx_ret (o_iret S hr hlocks hC ⟨rfl, by simp [condW, c1, c6, h1, c28, c41, h3], rfl⟩ rfl dX0_condition_68 (Nat.le_of_ble_eq_true rfl) (Nat.le_of_ble_eq_true rfl))
        · skip
          exact x_throw_iae (tx := "one relation is enough") hs0 S hC (by decide) hnt hlocks hl.1 (by simp [condW, c1, c6, h1, c28, c41]) dX0_condition_44 dX0_condition_47 dX0_condition_48 dX0_condition_50 dX0_condition_53 ⟨(Nat.le_of_ble_eq_true rfl), (Nat.le_of_ble_eq_true rfl), (Nat.le_of_ble_eq_true rfl), (Nat.le_of_ble_eq_true rfl)⟩ ⟨(Nat.le_of_ble_eq_true rfl), (Nat.le_of_ble_eq_true rfl)⟩
      · skip
        refine lv_aload_n S.1 S.2.1 dX0_condition_31 rfl (lv_at hl 0 rfl) ?_
        refine lv_iload_n S.1 S.2.1 dX0_condition_32 rfl (lv_at hl 3 rfl) ?_
        refine o_xcallv oiX S hC (c_X0_needRelation l hs0 hn y) cw_RX0_X0_needRelation ⟨rfl, rfl, by decide, by decide⟩ rfl hl.1 rfl (Nat.le_of_ble_eq_true rfl) dX0_condition_33 ⟨(Nat.le_of_ble_eq_true rfl), (Nat.le_of_ble_eq_true rfl)⟩ hnt hlocks ⟨(Nat.le_of_ble_eq_true rfl), (Nat.le_of_ble_eq_true rfl)⟩ (fun E h => by simp [condW, c1, c6, h1, c28, h.1, h.2]) (fun S1 H locs hp hC1 => ?_)
        obtain ⟨e1, hp⟩ := hp
        rw [e1] at hC1; replace hC := hC1
        have h2 := hp
        refine lv_goto (tgt := 54) S.1 S.2.1 dX0_condition_36 (by decide) ?_
        refine lv_aload_n S.1 S.2.1 dX0_condition_54 rfl (lv_at hl 0 rfl) ?_
        refine o_xcallv oiX S hC (c_X0_needRoomForRelation l hs0 hn) cw_RX0_X0_needRoomForRelation ⟨rfl, rfl, by decide, by decide⟩ rfl hl.1 rfl (Nat.le_of_ble_eq_true rfl) dX0_condition_55 ⟨(Nat.le_of_ble_eq_true rfl), (Nat.le_of_ble_eq_true rfl)⟩ hnt hlocks ⟨(Nat.le_of_ble_eq_true rfl), (Nat.le_of_ble_eq_true rfl)⟩ (fun E h => by simp [condW, c1, c6, h1, c28, h2, h.1, h.2]) (fun S1 H locs hp hC1 => ?_)
        obtain ⟨e1, hp⟩ := hp
        rw [e1] at hC1; replace hC := hC1
        have h3 := hp
        have hR12 : R < 12 := by simp only [xFull, decide_eq_false_iff_not, Classical.not_not, hrel] at h3; exact (nI_ltI (by omega) (by omega)).mp h3
        refine lv_aload_n S.1 S.2.1 dX0_condition_58 rfl (lv_at hl 0 rfl) ?_
        refine lv_bipush (v := nI 10) S.1 S.2.1 dX0_condition_59 rfl ?_
        refine lv_iload_n S.1 S.2.1 dX0_condition_61 rfl (lv_at hl 1 rfl) ?_
        refine lv_iadd S.1 S.2.1 dX0_condition_62 ?_
        refine lv_iload_n S.1 S.2.1 dX0_condition_63 rfl (lv_at hl 2 rfl) ?_
        refine lv_iload_n S.1 S.2.1 dX0_condition_64 rfl (lv_at hl 3 rfl) ?_
        refine o_calli oiX S hC (c_X0_addRelation l hn hR12 hrel _ x y) cw_RX0_X0_addRelation ⟨rfl, rfl, by decide, by decide⟩ rfl hl.1 rfl (Nat.le_of_ble_eq_true rfl) dX0_condition_65 ⟨(Nat.le_of_ble_eq_true rfl), (Nat.le_of_ble_eq_true rfl)⟩ (fun r65 S1 H locs hp hC1 => ?_)
        obtain ⟨e1, hp⟩ := hp
        rw [e1] at hC1; replace hC := hC1
        subst hp
        exact vx_ret (o_iret S hr hlocks hC ⟨rfl, by simp [condW, c1, c6, h1, c28, h2, h3], rfl⟩ rfl dX0_condition_68 (Nat.le_of_ble_eq_true rfl) (Nat.le_of_ble_eq_true rfl))
    · skip
      exact x_throw_iae (tx := "no such condition") hs0 S hC (by decide) hnt hlocks hl.1 (by simp [condW, c6]) dX0_condition_9 dX0_condition_12 dX0_condition_13 dX0_condition_15 dX0_condition_18 ⟨(Nat.le_of_ble_eq_true rfl), (Nat.le_of_ble_eq_true rfl), (Nat.le_of_ble_eq_true rfl), (Nat.le_of_ble_eq_true rfl)⟩ ⟨(Nat.le_of_ble_eq_true rfl), (Nat.le_of_ble_eq_true rfl)⟩
end
section
theorem settW_none {S : RS} {n R : Nat} (hn : n ≤ 40) (hR : R ≤ 12) (hrel : S.1 0 = nI R) {x a b : Int32} (h : settW S n x a b = none) : ∃ r a' b', r < R ∧ a' < n ∧ b' < n ∧ x = nI r ∧ a = nI a' ∧ b = nI b' := by
  unfold settW at h
  by_cases h1 : inI x (S.1 0) = false
  · rw [if_pos h1] at h; cases h
  · rw [if_neg h1] at h
    by_cases h2 : inI a (nI n) = false
    · rw [if_pos h2] at h; cases h
    · rw [if_neg h2] at h
      by_cases h3 : inI b (nI n) = false
      · rw [if_pos h3] at h; cases h
      · rw [hrel] at h1
        obtain ⟨r, q1, q2⟩ := inI_t (by omega) (Bool.of_not_eq_false h1)
        obtain ⟨a', q3, q4⟩ := inI_t (by omega) (Bool.of_not_eq_false h2)
        obtain ⟨b', q5, q6⟩ := inI_t (by omega) (Bool.of_not_eq_false h3)
        exact ⟨r, a', b', q1, q3, q5, q2, q4, q6⟩
theorem pushRF_1 (S : RS) (n r a : Nat) : ∀ k, (pushRF S n r a k).1 1 = S.1 1
  | 0 => rfl
  | k + 1 => by
    have ih := pushRF_1 S n r a k
    unfold pushRF
    split
    · unfold pushPF
      split
      · rw [(partF_1 _ _ _ _ _).1]; exact ih
      · show (partF _ _ _ _ _).1 1 = _
        rw [(partF_1 _ _ _ _ _).1]; exact ih
    · exact ih
theorem pushCF_1 (S : RS) (n r b : Nat) : ∀ k, (pushCF S n r b k).1 1 = S.1 1
  | 0 => rfl
  | k + 1 => by
    have ih := pushCF_1 S n r b k
    unfold pushCF
    split
    · unfold pushPF
      split
      · rw [(partF_1 _ _ _ _ _).1]; exact ih
      · show (partF _ _ _ _ _).1 1 = _
        rw [(partF_1 _ _ _ _ _).1]; exact ih
    · exact ih
theorem pushOF_1 (S : RS) (n r a b : Nat) : (pushOF S n r a b).1 1 = S.1 1 := by
  unfold pushOF
  split
  · rw [pushCF_1, pushRF_1]
  · split
    · rw [pushCF_1]
    · split
      · rw [pushRF_1]
      · split
        · rw [pushRF_1, pushRF_1]
        · rfl
theorem joinF_1 (S : RS) (n r a b : Nat) : (joinF S n r a b).1 = S.1 := by
  unfold joinF
  split
  · exact (makeF_1 _ _ _ _).1
  · split <;> rfl
def talF (S : RS) (n a b : Nat) : RS := sA (sI S 2 (nI 0)) 1 (a * n + b) (S.2.1 1 (a * n + b) + nI 1)
def setC (S : RS) (n t r a b : Nat) : RS := if hX (talF S n a b) r a b then talF S n a b else sI (joinF (pushOF (talF S n a b) n r a b) n r a b) 1 (nI (min t (r + 1)))
theorem idx_lt {a b n : Nat} (ha : a < n) (hb : b < n) : a * n + b < n * n := by
  have h1 : a * n + n ≤ n * n := by
    rw [show a * n + n = (a + 1) * n by rw [Nat.succ_mul]]
    exact Nat.mul_le_mul_right n ha
  omega
set_option maxRecDepth 100000 in
set_option maxHeartbeats 4000000 in
theorem c_X0_set (l : Launch) (hs0 : l.stackTraces = false) {loc : Nat → Nat} {n : Nat} {g : Gc} (hn : n ≤ 40) {S0 : RS} {R : Nat} (hR : R ≤ 12) (hrel : S0.1 0 = nI R) {t : Nat} (ht12 : t ≤ 12) (ht : S0.1 1 = nI t) (x a b : Int32) : TXi l yX0_set cX0_set 4 (some .int) (rmL 9 8 48) loc n g S0 [.int x, .int a, .int b] (fun v S' => S' = setC S0 n t (ixN x) (ixN a) (ixN b) ∧ settW S0 n x a b = none ∧ v = S'.1 2) (fun E => settW S0 n x a b = some E) := by
  refine o_enterx (by decide) (Nat.le_of_ble_eq_true rfl) ?_
  intro p e s m below meth c ls S hr hlocks hnt hC hl
  refine lv_aload_n S.1 S.2.1 dX0_set_0 rfl (lv_at hl 0 rfl) ?_
  refine lv_iload_n S.1 S.2.1 dX0_set_1 rfl (lv_at hl 1 rfl) ?_
  refine lv_iload_n S.1 S.2.1 dX0_set_2 rfl (lv_at hl 2 rfl) ?_
  refine lv_iload_n S.1 S.2.1 dX0_set_3 rfl (lv_at hl 3 rfl) ?_
  refine o_xcallv oiX S hC (c_X0_needSettable l hs0 hn hR hrel x a b) cw_RX0_X0_needSettable ⟨rfl, rfl, by decide, by decide⟩ rfl hl.1 rfl (Nat.le_of_ble_eq_true rfl) dX0_set_4 ⟨(Nat.le_of_ble_eq_true rfl), (Nat.le_of_ble_eq_true rfl)⟩ hnt hlocks ⟨(Nat.le_of_ble_eq_true rfl), (Nat.le_of_ble_eq_true rfl)⟩ (fun E h => h) (fun S1 H locs hp hC1 => ?_)
  obtain ⟨e1, hp⟩ := hp
  rw [e1] at hC1; replace hC := hC1
  have h0 := hp
  obtain ⟨r, a, b, hrR, ha, hb, rfl, rfl, rfl⟩ := settW_none hn hR hrel h0
  have er : ixN (nI r) = r := ixN_nI (by omega)
  have ea : ixN (nI a) = a := ixN_nI (by omega)
  have eb : ixN (nI b) = b := ixN_nI (by omega)
  have hr12 : r < 12 := by omega
  refine lv_aload_n S.1 S.2.1 dX0_set_7 rfl (lv_at hl 0 rfl) ?_
  refine lv_iconst (v := nI 0) S.1 S.2.1 dX0_set_8 rfl ?_
  refine x_put_pushedCount S hC dX0_set_9 (fun H locs hC => ?_)
  refine lv_aload_n S.1 S.2.1 dX0_set_12 rfl (lv_at hl 0 rfl) ?_
  refine x_get_tallies S hC dX0_set_13 ?_
  refine lv_iload_n S.1 S.2.1 dX0_set_16 rfl (lv_at hl 2 rfl) ?_
  refine lv_aload_n S.1 S.2.1 dX0_set_17 rfl (lv_at hl 0 rfl) ?_
  refine x_get_things S hC dX0_set_18 ?_
  refine t_imul S.1 S.2.1 dX0_set_21 (pk_mul _ _) ?_
  refine lv_iload_n S.1 S.2.1 dX0_set_22 rfl (lv_at hl 3 rfl) ?_
  refine t_iadd S.1 S.2.1 dX0_set_23 (nI_add _ _) ?_
  refine lv_dup2_11 S.1 S.2.1 dX0_set_24 rfl rfl ?_
  refine x_ild S hC hn 1 (by decide) (show a * n + b < n * n from idx_lt ha hb) dX0_set_25 ?_
  refine lv_iconst (v := nI 1) S.1 S.2.1 dX0_set_26 rfl ?_
  refine lv_iadd S.1 S.2.1 dX0_set_27 ?_
  refine x_ist S hC hn 1 (by decide) (show a * n + b < n * n from idx_lt ha hb) dX0_set_28 (fun H locs hC => ?_)
  refine lv_aload_n S.1 S.2.1 dX0_set_29 rfl (lv_at hl 0 rfl) ?_
  refine lv_iload_n S.1 S.2.1 dX0_set_30 rfl (lv_at hl 1 rfl) ?_
  refine lv_iload_n S.1 S.2.1 dX0_set_31 rfl (lv_at hl 2 rfl) ?_
  refine lv_iload_n S.1 S.2.1 dX0_set_32 rfl (lv_at hl 3 rfl) ?_
  refine o_calli oiX S hC (c_X0_holds l hn hr12 ha hb) cw_RX0_X0_holds ⟨rfl, rfl, by decide, by decide⟩ rfl hl.1 rfl (Nat.le_of_ble_eq_true rfl) dX0_set_33 ⟨(Nat.le_of_ble_eq_true rfl), (Nat.le_of_ble_eq_true rfl)⟩ (fun r33 S1 H locs hp hC1 => ?_)
  obtain ⟨e1, hp⟩ := hp
  rw [e1] at hC1; replace hC := hC1
  subst hp
  refine b_if_ne (tgt := 58) S.1 S.2.1 dX0_set_36 (by decide) (fun c36 => ?_) (fun c36 => ?_)
  · skip
    refine lv_aload_n S.1 S.2.1 dX0_set_58 rfl (lv_at hl 0 rfl) ?_
    refine x_get_pushedCount S hC dX0_set_59 ?_
    exact vx_ret (o_iret S hr hlocks hC ⟨by rw [er, ea, eb, setC, if_pos (show hX (talF S0 n a b) r a b = true from c36)]; rfl, h0, rfl⟩ rfl dX0_set_62 (Nat.le_of_ble_eq_true rfl) (Nat.le_of_ble_eq_true rfl))
  · skip
    refine lv_aload_n S.1 S.2.1 dX0_set_39 rfl (lv_at hl 0 rfl) ?_
    refine lv_iload_n S.1 S.2.1 dX0_set_40 rfl (lv_at hl 1 rfl) ?_
    refine lv_iload_n S.1 S.2.1 dX0_set_41 rfl (lv_at hl 2 rfl) ?_
    refine lv_iload_n S.1 S.2.1 dX0_set_42 rfl (lv_at hl 3 rfl) ?_
    refine o_callv oiX S hC (c_X0_pushOut l hn hr12 ha hb ⟨0, by omega, rfl⟩) cw_RX0_X0_pushOut ⟨rfl, rfl, by decide, by decide⟩ rfl hl.1 rfl (Nat.le_of_ble_eq_true rfl) dX0_set_43 ⟨(Nat.le_of_ble_eq_true rfl), (Nat.le_of_ble_eq_true rfl)⟩ (fun S1 H locs hp hC1 => ?_)
    have e1 := hp
    rw [e1] at hC1; replace hC := hC1
    refine lv_aload_n S.1 S.2.1 dX0_set_46 rfl (lv_at hl 0 rfl) ?_
    refine lv_iload_n S.1 S.2.1 dX0_set_47 rfl (lv_at hl 1 rfl) ?_
    refine lv_iload_n S.1 S.2.1 dX0_set_48 rfl (lv_at hl 2 rfl) ?_
    refine lv_iload_n S.1 S.2.1 dX0_set_49 rfl (lv_at hl 3 rfl) ?_
    refine o_callv oiX S hC (c_X0_join l hn hr12 ha hb) cw_RX0_X0_join ⟨rfl, rfl, by decide, by decide⟩ rfl hl.1 rfl (Nat.le_of_ble_eq_true rfl) dX0_set_50 ⟨(Nat.le_of_ble_eq_true rfl), (Nat.le_of_ble_eq_true rfl)⟩ (fun S1 H locs hp hC1 => ?_)
    have e1 := hp
    rw [e1] at hC1; replace hC := hC1
    refine lv_aload_n S.1 S.2.1 dX0_set_53 rfl (lv_at hl 0 rfl) ?_
    refine lv_iload_n S.1 S.2.1 dX0_set_54 rfl (lv_at hl 1 rfl) ?_
    refine o_callv oiX S hC (c_X0_makeStale l hn hr12 ht12 (by rw [joinF_1, pushOF_1]; exact ht)) cw_RX0_X0_makeStale ⟨rfl, rfl, by decide, by decide⟩ rfl hl.1 rfl (Nat.le_of_ble_eq_true rfl) dX0_set_55 ⟨(Nat.le_of_ble_eq_true rfl), (Nat.le_of_ble_eq_true rfl)⟩ (fun S1 H locs hp hC1 => ?_)
    have e1 := hp
    rw [e1] at hC1; replace hC := hC1
    refine lv_aload_n S.1 S.2.1 dX0_set_58 rfl (lv_at hl 0 rfl) ?_
    refine x_get_pushedCount S hC dX0_set_59 ?_
    exact vx_ret (o_iret S hr hlocks hC ⟨by rw [er, ea, eb, setC, if_neg (by rw [show hX (talF S0 n a b) r a b = false from c36]; decide)]; rfl, h0, rfl⟩ rfl dX0_set_62 (Nat.le_of_ble_eq_true rfl) (Nat.le_of_ble_eq_true rfl))
def dropB (S : RS) (r a b : Nat) : Bool := hX S r a b && !(decide (S.2.1 2 r = nI 6) && decide (a = b))
def dropC (S : RS) (n t r a b : Nat) : RS := if dropB S r a b then sI (partF S n r a b) 1 (nI (min t (r + 1))) else S
set_option maxRecDepth 100000 in
set_option maxHeartbeats 4000000 in
theorem c_X0_drop (l : Launch) (hs0 : l.stackTraces = false) {loc : Nat → Nat} {n : Nat} {g : Gc} (hn : n ≤ 40) {S0 : RS} {R : Nat} (hR : R ≤ 12) (hrel : S0.1 0 = nI R) {t : Nat} (ht12 : t ≤ 12) (ht : S0.1 1 = nI t) (x a b : Int32) : TXi l yX0_drop cX0_drop 4 (some .boolean) (rmL 9 8 48) loc n g S0 [.int x, .int a, .int b] (fun v S' => S' = dropC S0 n t (ixN x) (ixN a) (ixN b) ∧ settW S0 n x a b = none ∧ v = bI (dropB S0 (ixN x) (ixN a) (ixN b))) (fun E => settW S0 n x a b = some E) := by
  refine o_enterx (by decide) (Nat.le_of_ble_eq_true rfl) ?_
  intro p e s m below meth c ls S hr hlocks hnt hC hl
  refine lv_aload_n S.1 S.2.1 dX0_drop_0 rfl (lv_at hl 0 rfl) ?_
  refine lv_iload_n S.1 S.2.1 dX0_drop_1 rfl (lv_at hl 1 rfl) ?_
  refine lv_iload_n S.1 S.2.1 dX0_drop_2 rfl (lv_at hl 2 rfl) ?_
  refine lv_iload_n S.1 S.2.1 dX0_drop_3 rfl (lv_at hl 3 rfl) ?_
  refine o_xcallv oiX S hC (c_X0_needSettable l hs0 hn hR hrel x a b) cw_RX0_X0_needSettable ⟨rfl, rfl, by decide, by decide⟩ rfl hl.1 rfl (Nat.le_of_ble_eq_true rfl) dX0_drop_4 ⟨(Nat.le_of_ble_eq_true rfl), (Nat.le_of_ble_eq_true rfl)⟩ hnt hlocks ⟨(Nat.le_of_ble_eq_true rfl), (Nat.le_of_ble_eq_true rfl)⟩ (fun E h => h) (fun S1 H locs hp hC1 => ?_)
  obtain ⟨e1, hp⟩ := hp
  rw [e1] at hC1; replace hC := hC1
  have h0 := hp
  obtain ⟨r, a, b, hrR, ha, hb, rfl, rfl, rfl⟩ := settW_none hn hR hrel h0
  have er : ixN (nI r) = r := ixN_nI (by omega)
  have ea : ixN (nI a) = a := ixN_nI (by omega)
  have eb : ixN (nI b) = b := ixN_nI (by omega)
  have hr12 : r < 12 := by omega
  refine lv_aload_n S.1 S.2.1 dX0_drop_7 rfl (lv_at hl 0 rfl) ?_
  refine lv_iload_n S.1 S.2.1 dX0_drop_8 rfl (lv_at hl 1 rfl) ?_
  refine lv_iload_n S.1 S.2.1 dX0_drop_9 rfl (lv_at hl 2 rfl) ?_
  refine lv_iload_n S.1 S.2.1 dX0_drop_10 rfl (lv_at hl 3 rfl) ?_
  refine o_calli oiX S hC (c_X0_holds l hn hr12 ha hb) cw_RX0_X0_holds ⟨rfl, rfl, by decide, by decide⟩ rfl hl.1 rfl (Nat.le_of_ble_eq_true rfl) dX0_drop_11 ⟨(Nat.le_of_ble_eq_true rfl), (Nat.le_of_ble_eq_true rfl)⟩ (fun r11 S1 H locs hp hC1 => ?_)
  obtain ⟨e1, hp⟩ := hp
  rw [e1] at hC1; replace hC := hC1
  subst hp
  refine b_if_eq (tgt := 33) S.1 S.2.1 dX0_drop_14 (by decide) (fun c14 => ?_) (fun c14 => ?_)
  · have hB : dropB S0 r a b = false := by simp [dropB, c14]
    refine lv_iconst (v := 0) S.1 S.2.1 dX0_drop_33 rfl ?_
    exact vx_ret (o_iret S hr hlocks hC ⟨by rw [er, ea, eb, dropC, if_neg (by rw [hB]; decide)], h0, by rw [er, ea, eb, hB]; rfl⟩ rfl dX0_drop_34 (Nat.le_of_ble_eq_true rfl) (Nat.le_of_ble_eq_true rfl))
  · skip
    refine lv_aload_n S.1 S.2.1 dX0_drop_17 rfl (lv_at hl 0 rfl) ?_
    refine x_get_forms S hC dX0_drop_18 ?_
    refine lv_iload_n S.1 S.2.1 dX0_drop_21 rfl (lv_at hl 1 rfl) ?_
    refine x_ild S hC hn 2 (by decide) hr12 dX0_drop_22 ?_
    refine lv_bipush (v := nI 6) S.1 S.2.1 dX0_drop_23 rfl ?_
    refine lv_icmp_ne (tgt := 35) S.1 S.2.1 dX0_drop_25 (by decide) (fun c25 => ?_) (fun c25 => ?_)
    · have hB : dropB S0 r a b = true := by simp [dropB, c14, c25]
      refine lv_aload_n S.1 S.2.1 dX0_drop_35 rfl (lv_at hl 0 rfl) ?_
      refine lv_iload_n S.1 S.2.1 dX0_drop_36 rfl (lv_at hl 1 rfl) ?_
      refine lv_iload_n S.1 S.2.1 dX0_drop_37 rfl (lv_at hl 2 rfl) ?_
      refine lv_iload_n S.1 S.2.1 dX0_drop_38 rfl (lv_at hl 3 rfl) ?_
      refine o_callv oiX S hC (c_X0_part l hn hr12 ha hb) cw_RX0_X0_part ⟨rfl, rfl, by decide, by decide⟩ rfl hl.1 rfl (Nat.le_of_ble_eq_true rfl) dX0_drop_39 ⟨(Nat.le_of_ble_eq_true rfl), (Nat.le_of_ble_eq_true rfl)⟩ (fun S1 H locs hp hC1 => ?_)
      have e1 := hp
      rw [e1] at hC1; replace hC := hC1
      refine lv_aload_n S.1 S.2.1 dX0_drop_42 rfl (lv_at hl 0 rfl) ?_
      refine lv_iload_n S.1 S.2.1 dX0_drop_43 rfl (lv_at hl 1 rfl) ?_
      refine o_callv oiX S hC (c_X0_makeStale l hn hr12 ht12 (by rw [(partF_1 _ _ _ _ _).1]; exact ht)) cw_RX0_X0_makeStale ⟨rfl, rfl, by decide, by decide⟩ rfl hl.1 rfl (Nat.le_of_ble_eq_true rfl) dX0_drop_44 ⟨(Nat.le_of_ble_eq_true rfl), (Nat.le_of_ble_eq_true rfl)⟩ (fun S1 H locs hp hC1 => ?_)
      have e1 := hp
      rw [e1] at hC1; replace hC := hC1
      refine lv_iconst (v := 1) S.1 S.2.1 dX0_drop_47 rfl ?_
      exact vx_ret (o_iret S hr hlocks hC ⟨by rw [er, ea, eb, dropC, if_pos hB], h0, by rw [er, ea, eb, hB]; rfl⟩ rfl dX0_drop_48 (Nat.le_of_ble_eq_true rfl) (Nat.le_of_ble_eq_true rfl))
    · skip
      refine lv_iload_n S.1 S.2.1 dX0_drop_28 rfl (lv_at hl 2 rfl) ?_
      refine lv_iload_n S.1 S.2.1 dX0_drop_29 rfl (lv_at hl 3 rfl) ?_
      refine n_icmp_ne (tgt := 35) S.1 S.2.1 dX0_drop_30 (by decide) (by omega) (by omega) (fun c30 => ?_) (fun c30 => ?_)
      · have hB : dropB S0 r a b = true := by simp [dropB, c14, c30]
        refine lv_aload_n S.1 S.2.1 dX0_drop_35 rfl (lv_at hl 0 rfl) ?_
        refine lv_iload_n S.1 S.2.1 dX0_drop_36 rfl (lv_at hl 1 rfl) ?_
        refine lv_iload_n S.1 S.2.1 dX0_drop_37 rfl (lv_at hl 2 rfl) ?_
        refine lv_iload_n S.1 S.2.1 dX0_drop_38 rfl (lv_at hl 3 rfl) ?_
        refine o_callv oiX S hC (c_X0_part l hn hr12 ha hb) cw_RX0_X0_part ⟨rfl, rfl, by decide, by decide⟩ rfl hl.1 rfl (Nat.le_of_ble_eq_true rfl) dX0_drop_39 ⟨(Nat.le_of_ble_eq_true rfl), (Nat.le_of_ble_eq_true rfl)⟩ (fun S1 H locs hp hC1 => ?_)
        have e1 := hp
        rw [e1] at hC1; replace hC := hC1
        refine lv_aload_n S.1 S.2.1 dX0_drop_42 rfl (lv_at hl 0 rfl) ?_
        refine lv_iload_n S.1 S.2.1 dX0_drop_43 rfl (lv_at hl 1 rfl) ?_
        refine o_callv oiX S hC (c_X0_makeStale l hn hr12 ht12 (by rw [(partF_1 _ _ _ _ _).1]; exact ht)) cw_RX0_X0_makeStale ⟨rfl, rfl, by decide, by decide⟩ rfl hl.1 rfl (Nat.le_of_ble_eq_true rfl) dX0_drop_44 ⟨(Nat.le_of_ble_eq_true rfl), (Nat.le_of_ble_eq_true rfl)⟩ (fun S1 H locs hp hC1 => ?_)
        have e1 := hp
        rw [e1] at hC1; replace hC := hC1
        refine lv_iconst (v := 1) S.1 S.2.1 dX0_drop_47 rfl ?_
        exact vx_ret (o_iret S hr hlocks hC ⟨by rw [er, ea, eb, dropC, if_pos hB], h0, by rw [er, ea, eb, hB]; rfl⟩ rfl dX0_drop_48 (Nat.le_of_ble_eq_true rfl) (Nat.le_of_ble_eq_true rfl))
      · have hB : dropB S0 r a b = false := by simp [dropB, c25, c30]
        refine lv_iconst (v := 0) S.1 S.2.1 dX0_drop_33 rfl ?_
        exact vx_ret (o_iret S hr hlocks hC ⟨by rw [er, ea, eb, dropC, if_neg (by rw [hB]; decide)], h0, by rw [er, ea, eb, hB]; rfl⟩ rfl dX0_drop_34 (Nat.le_of_ble_eq_true rfl) (Nat.le_of_ble_eq_true rfl))
def emptW (S : RS) (x : Int32) : Option String := if inI x (S.1 0) = false then some iaeS else if byC S (ixN x) = true then some iseS else none
theorem startF_1 (S : RS) (r : Nat) : ∀ k, (startF S r k).1 = S.1 ∧ (startF S r k).2.1 = S.2.1
  | 0 => ⟨rfl, rfl⟩
  | k + 1 => startF_1 S r k
def emptC (S : RS) (n t r : Nat) : RS := sI (startF S r n) 1 (nI (min t (r + 1)))
set_option maxRecDepth 100000 in
set_option maxHeartbeats 4000000 in
theorem c_X0_empty (l : Launch) (hs0 : l.stackTraces = false) {loc : Nat → Nat} {n : Nat} {g : Gc} (hn : n ≤ 40) {S0 : RS} {R : Nat} (hR : R ≤ 12) (hrel : S0.1 0 = nI R) {t : Nat} (ht12 : t ≤ 12) (ht : S0.1 1 = nI t) (x : Int32) : TXi l yX0_empty cX0_empty 3 (some .int) (rmL 9 8 48) loc n g S0 [.int x] (fun v S' => S' = emptC S0 n t (ixN x) ∧ emptW S0 x = none ∧ v = pairsF S0 (ixN x) n - pairsF S' (ixN x) n) (fun E => emptW S0 x = some E) := by
  refine o_enterx (by decide) (Nat.le_of_ble_eq_true rfl) ?_
  intro p e s m below meth c ls S hr hlocks hnt hC hl
  refine lv_aload_n S.1 S.2.1 dX0_empty_0 rfl (lv_at hl 0 rfl) ?_
  refine lv_iload_n S.1 S.2.1 dX0_empty_1 rfl (lv_at hl 1 rfl) ?_
  refine o_xcallv oiX S hC (c_X0_needRelation l hs0 hn x) cw_RX0_X0_needRelation ⟨rfl, rfl, by decide, by decide⟩ rfl hl.1 rfl (Nat.le_of_ble_eq_true rfl) dX0_empty_2 ⟨(Nat.le_of_ble_eq_true rfl), (Nat.le_of_ble_eq_true rfl)⟩ hnt hlocks ⟨(Nat.le_of_ble_eq_true rfl), (Nat.le_of_ble_eq_true rfl)⟩ (fun E h => by simp [emptW, h.1, h.2]) (fun S1 H locs hp hC1 => ?_)
  obtain ⟨e1, hp⟩ := hp
  rw [e1] at hC1; replace hC := hC1
  have h1 := hp
  rw [hrel] at hp
  obtain ⟨r, hrR, rfl⟩ := inI_t (by omega) hp
  have er : ixN (nI r) = r := ixN_nI (by omega)
  have hr12 : r < 12 := by omega
  refine lv_aload_n S.1 S.2.1 dX0_empty_5 rfl (lv_at hl 0 rfl) ?_
  refine lv_iload_n S.1 S.2.1 dX0_empty_6 rfl (lv_at hl 1 rfl) ?_
  refine o_xcallv oiX S hC (c_X0_needForm l hs0 hn hr12) cw_RX0_X0_needForm ⟨rfl, rfl, by decide, by decide⟩ rfl hl.1 rfl (Nat.le_of_ble_eq_true rfl) dX0_empty_7 ⟨(Nat.le_of_ble_eq_true rfl), (Nat.le_of_ble_eq_true rfl)⟩ hnt hlocks ⟨(Nat.le_of_ble_eq_true rfl), (Nat.le_of_ble_eq_true rfl)⟩ (fun E h => by simp [emptW, h1, er, h.1, h.2]) (fun S1 H locs hp hC1 => ?_)
  obtain ⟨e1, hp⟩ := hp
  rw [e1] at hC1; replace hC := hC1
  have h2 := hp
  refine lv_aload_n S.1 S.2.1 dX0_empty_10 rfl (lv_at hl 0 rfl) ?_
  refine lv_iload_n S.1 S.2.1 dX0_empty_11 rfl (lv_at hl 1 rfl) ?_
  refine o_calli oiX S hC (c_X0_pairsOf l hn hr12) cw_RX0_X0_pairsOf ⟨rfl, rfl, by decide, by decide⟩ rfl hl.1 rfl (Nat.le_of_ble_eq_true rfl) dX0_empty_12 ⟨(Nat.le_of_ble_eq_true rfl), (Nat.le_of_ble_eq_true rfl)⟩ (fun r12 S1 H locs hp hC1 => ?_)
  obtain ⟨e1, hp⟩ := hp
  rw [e1] at hC1; replace hC := hC1
  subst hp
  refine lv_istore_n S.1 S.2.1 dX0_empty_15 rfl hl (by decide) rfl (fun ls hl => ?_)
  refine lv_aload_n S.1 S.2.1 dX0_empty_16 rfl (lv_at hl 1 rfl) ?_
  refine lv_iload_n S.1 S.2.1 dX0_empty_17 rfl (lv_at hl 2 rfl) ?_
  refine o_callv oiX S hC (c_X0_startRows l hn hr12) cw_RX0_X0_startRows ⟨rfl, rfl, by decide, by decide⟩ rfl hl.1 rfl (Nat.le_of_ble_eq_true rfl) dX0_empty_18 ⟨(Nat.le_of_ble_eq_true rfl), (Nat.le_of_ble_eq_true rfl)⟩ (fun S1 H locs hp hC1 => ?_)
  have e1 := hp
  rw [e1] at hC1; replace hC := hC1
  refine lv_aload_n S.1 S.2.1 dX0_empty_21 rfl (lv_at hl 1 rfl) ?_
  refine lv_iload_n S.1 S.2.1 dX0_empty_22 rfl (lv_at hl 2 rfl) ?_
  refine o_callv oiX S hC (c_X0_makeStale l hn hr12 ht12 (by rw [(startF_1 _ _ _).1]; exact ht)) cw_RX0_X0_makeStale ⟨rfl, rfl, by decide, by decide⟩ rfl hl.1 rfl (Nat.le_of_ble_eq_true rfl) dX0_empty_23 ⟨(Nat.le_of_ble_eq_true rfl), (Nat.le_of_ble_eq_true rfl)⟩ (fun S1 H locs hp hC1 => ?_)
  have e1 := hp
  rw [e1] at hC1; replace hC := hC1
  refine lv_iload_n S.1 S.2.1 dX0_empty_26 rfl (lv_at hl 0 rfl) ?_
  refine lv_aload_n S.1 S.2.1 dX0_empty_27 rfl (lv_at hl 1 rfl) ?_
  refine lv_iload_n S.1 S.2.1 dX0_empty_28 rfl (lv_at hl 2 rfl) ?_
  refine o_calli oiX S hC (c_X0_pairsOf l hn hr12) cw_RX0_X0_pairsOf ⟨rfl, rfl, by decide, by decide⟩ rfl hl.1 rfl (Nat.le_of_ble_eq_true rfl) dX0_empty_29 ⟨(Nat.le_of_ble_eq_true rfl), (Nat.le_of_ble_eq_true rfl)⟩ (fun r29 S1 H locs hp hC1 => ?_)
  obtain ⟨e1, hp⟩ := hp
  rw [e1] at hC1; replace hC := hC1
  subst hp
  refine lv_isub S.1 S.2.1 dX0_empty_32 ?_
  exact vx_ret (o_iret S hr hlocks hC ⟨by rw [er]; rfl, by simp [emptW, h1, er, h2], by rw [er] <;> rfl⟩ rfl dX0_empty_33 (Nat.le_of_ble_eq_true rfl) (Nat.le_of_ble_eq_true rfl))
def pushW (S : RS) (i w : Int32) : Option String := if ¬ w = 0 ∧ ¬ w = nI 1 then some iaeS else if inI i (S.1 2) = false then some nseS else none
set_option maxRecDepth 100000 in
set_option maxHeartbeats 4000000 in
theorem c_X0_pushed (l : Launch) (hs0 : l.stackTraces = false) {loc : Nat → Nat} {n : Nat} {g : Gc} (hn : n ≤ 40) {S0 : RS} {q : Nat} (hq : q ≤ 2) (hpc : S0.1 2 = nI q) (i w : Int32) : TXi l yX0_pushed cX0_pushed 3 (some .int) (rmL 9 8 48) loc n g S0 [.int i, .int w] (fun v S' => S' = S0 ∧ pushW S0 i w = none ∧ v = (if w = 0 then S0.2.1 5 (ixN i) else S0.2.1 6 (ixN i))) (fun E => pushW S0 i w = some E) := by
  refine o_enterx (by decide) (Nat.le_of_ble_eq_true rfl) ?_
  intro p e s m below meth c ls S hr hlocks hnt hC hl
  refine lv_iload_n S.1 S.2.1 dX0_pushed_0 rfl (lv_at hl 2 rfl) ?_
  refine lv_if_eq (tgt := 19) S.1 S.2.1 dX0_pushed_1 (by decide) (fun c1 => ?_) (fun c1 => ?_)
  · skip
    refine lv_iload_n S.1 S.2.1 dX0_pushed_19 rfl (lv_at hl 1 rfl) ?_
    refine lv_if_lt (tgt := 31) S.1 S.2.1 dX0_pushed_20 (by decide) (fun c20 => ?_) (fun c20 => ?_)
    · skip
      exact x_throw_nse (tx := "no such pair was pushed out") hs0 S hC (by decide) hnt hlocks hl.1 (by simp [pushW, c1, inI, c20]) dX0_pushed_31 dX0_pushed_34 dX0_pushed_35 dX0_pushed_37 dX0_pushed_40 ⟨(Nat.le_of_ble_eq_true rfl), (Nat.le_of_ble_eq_true rfl), (Nat.le_of_ble_eq_true rfl), (Nat.le_of_ble_eq_true rfl)⟩ ⟨(Nat.le_of_ble_eq_true rfl), (Nat.le_of_ble_eq_true rfl)⟩
    · skip
      refine lv_iload_n S.1 S.2.1 dX0_pushed_23 rfl (lv_at hl 1 rfl) ?_
      refine lv_aload_n S.1 S.2.1 dX0_pushed_24 rfl (lv_at hl 0 rfl) ?_
      refine x_get_pushedCount S hC dX0_pushed_25 ?_
      refine lv_icmp_lt (tgt := 41) S.1 S.2.1 dX0_pushed_28 (by decide) (fun c28 => ?_) (fun c28 => ?_)
      · have h2 : inI i (S0.1 2) = true := by simp [inI, c20, c28]
        have h3 := h2
        rw [hpc] at h3
        obtain ⟨j, hj, e0⟩ := inI_t (by omega) h3
        have ei : ixN i = j := by rw [e0]; exact ixN_nI (by omega)
        rw [e0] at hl
        refine lv_iload_n S.1 S.2.1 dX0_pushed_41 rfl (lv_at hl 2 rfl) ?_
        refine lv_if_ne (tgt := 54) S.1 S.2.1 dX0_pushed_42 (by decide) (fun c42 => ?_) (fun c42 => ?_)
        · skip
          refine lv_aload_n S.1 S.2.1 dX0_pushed_54 rfl (lv_at hl 0 rfl) ?_
          refine x_get_pushedSeconds S hC dX0_pushed_55 ?_
          refine lv_iload_n S.1 S.2.1 dX0_pushed_58 rfl (lv_at hl 1 rfl) ?_
          refine x_ild S hC hn 6 (by decide) (show j < 2 by omega) dX0_pushed_59 ?_
          exact vx_ret (o_iret S hr hlocks hC ⟨rfl, by simp [pushW, c1, h2], by rw [if_neg c42, ei]⟩ rfl dX0_pushed_60 (Nat.le_of_ble_eq_true rfl) (Nat.le_of_ble_eq_true rfl))
        · skip
          refine lv_aload_n S.1 S.2.1 dX0_pushed_45 rfl (lv_at hl 0 rfl) ?_
          refine x_get_pushedFirsts S hC dX0_pushed_46 ?_
          refine lv_iload_n S.1 S.2.1 dX0_pushed_49 rfl (lv_at hl 1 rfl) ?_
          refine x_ild S hC hn 5 (by decide) (show j < 2 by omega) dX0_pushed_50 ?_
          refine lv_goto (tgt := 60) S.1 S.2.1 dX0_pushed_51 (by decide) ?_
          exact vx_ret (o_iret S hr hlocks hC ⟨rfl, by simp [pushW, c1, h2], by rw [if_pos c42, ei]⟩ rfl dX0_pushed_60 (Nat.le_of_ble_eq_true rfl) (Nat.le_of_ble_eq_true rfl))
      · skip
        exact x_throw_nse (tx := "no such pair was pushed out") hs0 S hC (by decide) hnt hlocks hl.1 (by simp [pushW, c1, inI, c28]) dX0_pushed_31 dX0_pushed_34 dX0_pushed_35 dX0_pushed_37 dX0_pushed_40 ⟨(Nat.le_of_ble_eq_true rfl), (Nat.le_of_ble_eq_true rfl), (Nat.le_of_ble_eq_true rfl), (Nat.le_of_ble_eq_true rfl)⟩ ⟨(Nat.le_of_ble_eq_true rfl), (Nat.le_of_ble_eq_true rfl)⟩
  · skip
    refine lv_iload_n S.1 S.2.1 dX0_pushed_4 rfl (lv_at hl 2 rfl) ?_
    refine lv_iconst (v := nI 1) S.1 S.2.1 dX0_pushed_5 rfl ?_
    refine lv_icmp_eq (tgt := 19) S.1 S.2.1 dX0_pushed_6 (by decide) (fun c6 => ?_) (fun c6 => ?_)
    · skip
      refine lv_iload_n S.1 S.2.1 dX0_pushed_19 rfl (lv_at hl 1 rfl) ?_
      refine lv_if_lt (tgt := 31) S.1 S.2.1 dX0_pushed_20 (by decide) (fun c20 => ?_) (fun c20 => ?_)
      · skip
        exact x_throw_nse (tx := "no such pair was pushed out") hs0 S hC (by decide) hnt hlocks hl.1 (by simp [pushW, c6, inI, c20]) dX0_pushed_31 dX0_pushed_34 dX0_pushed_35 dX0_pushed_37 dX0_pushed_40 ⟨(Nat.le_of_ble_eq_true rfl), (Nat.le_of_ble_eq_true rfl), (Nat.le_of_ble_eq_true rfl), (Nat.le_of_ble_eq_true rfl)⟩ ⟨(Nat.le_of_ble_eq_true rfl), (Nat.le_of_ble_eq_true rfl)⟩
      · skip
        refine lv_iload_n S.1 S.2.1 dX0_pushed_23 rfl (lv_at hl 1 rfl) ?_
        refine lv_aload_n S.1 S.2.1 dX0_pushed_24 rfl (lv_at hl 0 rfl) ?_
        refine x_get_pushedCount S hC dX0_pushed_25 ?_
        refine lv_icmp_lt (tgt := 41) S.1 S.2.1 dX0_pushed_28 (by decide) (fun c28 => ?_) (fun c28 => ?_)
        · have h2 : inI i (S0.1 2) = true := by simp [inI, c20, c28]
          have h3 := h2
          rw [hpc] at h3
          obtain ⟨j, hj, e0⟩ := inI_t (by omega) h3
          have ei : ixN i = j := by rw [e0]; exact ixN_nI (by omega)
          rw [e0] at hl
          refine lv_iload_n S.1 S.2.1 dX0_pushed_41 rfl (lv_at hl 2 rfl) ?_
          refine lv_if_ne (tgt := 54) S.1 S.2.1 dX0_pushed_42 (by decide) (fun c42 => ?_) (fun c42 => ?_)
          · skip
            refine lv_aload_n S.1 S.2.1 dX0_pushed_54 rfl (lv_at hl 0 rfl) ?_
            refine x_get_pushedSeconds S hC dX0_pushed_55 ?_
            refine lv_iload_n S.1 S.2.1 dX0_pushed_58 rfl (lv_at hl 1 rfl) ?_
            refine x_ild S hC hn 6 (by decide) (show j < 2 by omega) dX0_pushed_59 ?_
            exact vx_ret (o_iret S hr hlocks hC ⟨rfl, by simp [pushW, c6, h2], by rw [if_neg c42, ei]⟩ rfl dX0_pushed_60 (Nat.le_of_ble_eq_true rfl) (Nat.le_of_ble_eq_true rfl))
          · skip
            refine lv_aload_n S.1 S.2.1 dX0_pushed_45 rfl (lv_at hl 0 rfl) ?_
            refine x_get_pushedFirsts S hC dX0_pushed_46 ?_
            refine lv_iload_n S.1 S.2.1 dX0_pushed_49 rfl (lv_at hl 1 rfl) ?_
            refine x_ild S hC hn 5 (by decide) (show j < 2 by omega) dX0_pushed_50 ?_
            refine lv_goto (tgt := 60) S.1 S.2.1 dX0_pushed_51 (by decide) ?_
            exact vx_ret (o_iret S hr hlocks hC ⟨rfl, by simp [pushW, c6, h2], by rw [if_pos c42, ei]⟩ rfl dX0_pushed_60 (Nat.le_of_ble_eq_true rfl) (Nat.le_of_ble_eq_true rfl))
        · skip
          exact x_throw_nse (tx := "no such pair was pushed out") hs0 S hC (by decide) hnt hlocks hl.1 (by simp [pushW, c6, inI, c28]) dX0_pushed_31 dX0_pushed_34 dX0_pushed_35 dX0_pushed_37 dX0_pushed_40 ⟨(Nat.le_of_ble_eq_true rfl), (Nat.le_of_ble_eq_true rfl), (Nat.le_of_ble_eq_true rfl), (Nat.le_of_ble_eq_true rfl)⟩ ⟨(Nat.le_of_ble_eq_true rfl), (Nat.le_of_ble_eq_true rfl)⟩
    · skip
      exact x_throw_iae (tx := "which is 0 or 1") hs0 S hC (by decide) hnt hlocks hl.1 (by simp [pushW, c1, c6]) dX0_pushed_9 dX0_pushed_12 dX0_pushed_13 dX0_pushed_15 dX0_pushed_18 ⟨(Nat.le_of_ble_eq_true rfl), (Nat.le_of_ble_eq_true rfl), (Nat.le_of_ble_eq_true rfl), (Nat.le_of_ble_eq_true rfl)⟩ ⟨(Nat.le_of_ble_eq_true rfl), (Nat.le_of_ble_eq_true rfl)⟩
def stlF (S : RS) (n t r : Nat) : RS := sI (setF S n t (max t (r + 1) - t)) 1 (nI (max t (r + 1)))
def raW (S : RS) (n : Nat) (x a : Int32) : Option String := if inI x (S.1 0) = false then some iaeS else if inI a (nI n) = false then some iaeS else none
def rabW (S : RS) (n : Nat) (x a b : Int32) : Option String := if inI x (S.1 0) = false then some iaeS else if inI a (nI n) = false then some iaeS else if inI b (nI n) = false then some iaeS else none
set_option maxRecDepth 100000 in
set_option maxHeartbeats 4000000 in
theorem c_X0_has (l : Launch) (hs0 : l.stackTraces = false) {loc : Nat → Nat} {n : Nat} {g : Gc} (hn : n ≤ 40) {S0 : RS} {R : Nat} (hR : R ≤ 12) (hrel : S0.1 0 = nI R) {t : Nat} (ht12 : t ≤ 12) (ht : S0.1 1 = nI t) (hw : ∀ q, q < R → byC S0 q = true → wfR S0 q) (x a b : Int32) : TXi l yX0_has cX0_has 4 (some .boolean) (rmL 9 8 48) loc n g S0 [.int x, .int a, .int b] (fun v S' => S' = stlF S0 n t (ixN x) ∧ rabW S0 n x a b = none ∧ v = bI (hX S' (ixN x) (ixN a) (ixN b))) (fun E => rabW S0 n x a b = some E) := by
  refine o_enterx (by decide) (Nat.le_of_ble_eq_true rfl) ?_
  intro p e s m below meth c ls S hr hlocks hnt hC hl
  refine lv_aload_n S.1 S.2.1 dX0_has_0 rfl (lv_at hl 0 rfl) ?_
  refine lv_iload_n S.1 S.2.1 dX0_has_1 rfl (lv_at hl 1 rfl) ?_
  refine o_xcallv oiX S hC (c_X0_needRelation l hs0 hn x) cw_RX0_X0_needRelation ⟨rfl, rfl, by decide, by decide⟩ rfl hl.1 rfl (Nat.le_of_ble_eq_true rfl) dX0_has_2 ⟨(Nat.le_of_ble_eq_true rfl), (Nat.le_of_ble_eq_true rfl)⟩ hnt hlocks ⟨(Nat.le_of_ble_eq_true rfl), (Nat.le_of_ble_eq_true rfl)⟩ (fun E h => by simp [rabW, h.1, h.2]) (fun S1 H locs hp hC1 => ?_)
  obtain ⟨e1, hp⟩ := hp
  rw [e1] at hC1; replace hC := hC1
  have h1 := hp
  rw [hrel] at hp
  obtain ⟨r, hrR, rfl⟩ := inI_t (by omega) hp
  have er : ixN (nI r) = r := ixN_nI (by omega)
  have hr12 : r < 12 := by omega
  refine lv_aload_n S.1 S.2.1 dX0_has_5 rfl (lv_at hl 0 rfl) ?_
  refine lv_iload_n S.1 S.2.1 dX0_has_6 rfl (lv_at hl 2 rfl) ?_
  refine o_xcallv oiX S hC (c_X0_needThing l hs0 hn a) cw_RX0_X0_needThing ⟨rfl, rfl, by decide, by decide⟩ rfl hl.1 rfl (Nat.le_of_ble_eq_true rfl) dX0_has_7 ⟨(Nat.le_of_ble_eq_true rfl), (Nat.le_of_ble_eq_true rfl)⟩ hnt hlocks ⟨(Nat.le_of_ble_eq_true rfl), (Nat.le_of_ble_eq_true rfl)⟩ (fun E h => by simp [rabW, h1, h.1, h.2]) (fun S1 H locs hp hC1 => ?_)
  obtain ⟨e1, hp⟩ := hp
  rw [e1] at hC1; replace hC := hC1
  have h2 := hp
  obtain ⟨a, ha, rfl⟩ := inI_t (by omega) h2
  have ea : ixN (nI a) = a := ixN_nI (by omega)
  refine lv_aload_n S.1 S.2.1 dX0_has_10 rfl (lv_at hl 0 rfl) ?_
  refine lv_iload_n S.1 S.2.1 dX0_has_11 rfl (lv_at hl 3 rfl) ?_
  refine o_xcallv oiX S hC (c_X0_needThing l hs0 hn b) cw_RX0_X0_needThing ⟨rfl, rfl, by decide, by decide⟩ rfl hl.1 rfl (Nat.le_of_ble_eq_true rfl) dX0_has_12 ⟨(Nat.le_of_ble_eq_true rfl), (Nat.le_of_ble_eq_true rfl)⟩ hnt hlocks ⟨(Nat.le_of_ble_eq_true rfl), (Nat.le_of_ble_eq_true rfl)⟩ (fun E h => by simp [rabW, h1, h2, h.1, h.2]) (fun S1 H locs hp hC1 => ?_)
  obtain ⟨e1, hp⟩ := hp
  rw [e1] at hC1; replace hC := hC1
  have h3 := hp
  obtain ⟨b, hb, rfl⟩ := inI_t (by omega) h3
  have eb : ixN (nI b) = b := ixN_nI (by omega)
  refine lv_aload_n S.1 S.2.1 dX0_has_15 rfl (lv_at hl 0 rfl) ?_
  refine lv_iload_n S.1 S.2.1 dX0_has_16 rfl (lv_at hl 1 rfl) ?_
  refine o_callv oiX S hC (c_X0_settle l hn hr12 ht12 ht (fun q hq => hw q (by omega))) cw_RX0_X0_settle ⟨rfl, rfl, by decide, by decide⟩ rfl hl.1 rfl (Nat.le_of_ble_eq_true rfl) dX0_has_17 ⟨(Nat.le_of_ble_eq_true rfl), (Nat.le_of_ble_eq_true rfl)⟩ (fun S1 H locs hp hC1 => ?_)
  have e1 := hp
  rw [e1] at hC1; replace hC := hC1
  refine lv_aload_n S.1 S.2.1 dX0_has_20 rfl (lv_at hl 0 rfl) ?_
  refine lv_iload_n S.1 S.2.1 dX0_has_21 rfl (lv_at hl 1 rfl) ?_
  refine lv_iload_n S.1 S.2.1 dX0_has_22 rfl (lv_at hl 2 rfl) ?_
  refine lv_iload_n S.1 S.2.1 dX0_has_23 rfl (lv_at hl 3 rfl) ?_
  refine o_calli oiX S hC (c_X0_holds l hn hr12 ha hb) cw_RX0_X0_holds ⟨rfl, rfl, by decide, by decide⟩ rfl hl.1 rfl (Nat.le_of_ble_eq_true rfl) dX0_has_24 ⟨(Nat.le_of_ble_eq_true rfl), (Nat.le_of_ble_eq_true rfl)⟩ (fun r24 S1 H locs hp hC1 => ?_)
  obtain ⟨e1, hp⟩ := hp
  rw [e1] at hC1; replace hC := hC1
  subst hp
  exact vx_ret (o_iret S hr hlocks hC ⟨by rw [er]; rfl, by simp [rabW, h1, h2, h3], by rw [er, ea, eb] <;> rfl⟩ (bI_nar _) dX0_has_27 (Nat.le_of_ble_eq_true rfl) (Nat.le_of_ble_eq_true rfl))
def rW (S : RS) (x : Int32) : Option String := if inI x (S.1 0) = false then some iaeS else none
set_option maxRecDepth 100000 in
set_option maxHeartbeats 4000000 in
theorem c_X0_count (l : Launch) (hs0 : l.stackTraces = false) {loc : Nat → Nat} {n : Nat} {g : Gc} (hn : n ≤ 40) {S0 : RS} {R : Nat} (hR : R ≤ 12) (hrel : S0.1 0 = nI R) {t : Nat} (ht12 : t ≤ 12) (ht : S0.1 1 = nI t) (hw : ∀ q, q < R → byC S0 q = true → wfR S0 q) (x : Int32) : TXi l yX0_count cX0_count 2 (some .int) (rmL 9 8 48) loc n g S0 [.int x] (fun v S' => S' = stlF S0 n t (ixN x) ∧ rW S0 x = none ∧ v = pairsF S' (ixN x) n) (fun E => rW S0 x = some E) := by
  refine o_enterx (by decide) (Nat.le_of_ble_eq_true rfl) ?_
  intro p e s m below meth c ls S hr hlocks hnt hC hl
  refine lv_aload_n S.1 S.2.1 dX0_count_0 rfl (lv_at hl 0 rfl) ?_
  refine lv_iload_n S.1 S.2.1 dX0_count_1 rfl (lv_at hl 1 rfl) ?_
  refine o_xcallv oiX S hC (c_X0_needRelation l hs0 hn x) cw_RX0_X0_needRelation ⟨rfl, rfl, by decide, by decide⟩ rfl hl.1 rfl (Nat.le_of_ble_eq_true rfl) dX0_count_2 ⟨(Nat.le_of_ble_eq_true rfl), (Nat.le_of_ble_eq_true rfl)⟩ hnt hlocks ⟨(Nat.le_of_ble_eq_true rfl), (Nat.le_of_ble_eq_true rfl)⟩ (fun E h => by simp [rW, h.1, h.2]) (fun S1 H locs hp hC1 => ?_)
  obtain ⟨e1, hp⟩ := hp
  rw [e1] at hC1; replace hC := hC1
  have h1 := hp
  rw [hrel] at hp
  obtain ⟨r, hrR, rfl⟩ := inI_t (by omega) hp
  have er : ixN (nI r) = r := ixN_nI (by omega)
  have hr12 : r < 12 := by omega
  refine lv_aload_n S.1 S.2.1 dX0_count_5 rfl (lv_at hl 0 rfl) ?_
  refine lv_iload_n S.1 S.2.1 dX0_count_6 rfl (lv_at hl 1 rfl) ?_
  refine o_callv oiX S hC (c_X0_settle l hn hr12 ht12 ht (fun q hq => hw q (by omega))) cw_RX0_X0_settle ⟨rfl, rfl, by decide, by decide⟩ rfl hl.1 rfl (Nat.le_of_ble_eq_true rfl) dX0_count_7 ⟨(Nat.le_of_ble_eq_true rfl), (Nat.le_of_ble_eq_true rfl)⟩ (fun S1 H locs hp hC1 => ?_)
  have e1 := hp
  rw [e1] at hC1; replace hC := hC1
  refine lv_aload_n S.1 S.2.1 dX0_count_10 rfl (lv_at hl 0 rfl) ?_
  refine lv_iload_n S.1 S.2.1 dX0_count_11 rfl (lv_at hl 1 rfl) ?_
  refine o_calli oiX S hC (c_X0_pairsOf l hn hr12) cw_RX0_X0_pairsOf ⟨rfl, rfl, by decide, by decide⟩ rfl hl.1 rfl (Nat.le_of_ble_eq_true rfl) dX0_count_12 ⟨(Nat.le_of_ble_eq_true rfl), (Nat.le_of_ble_eq_true rfl)⟩ (fun r12 S1 H locs hp hC1 => ?_)
  obtain ⟨e1, hp⟩ := hp
  rw [e1] at hC1; replace hC := hC1
  subst hp
  exact vx_ret (o_iret S hr hlocks hC ⟨by rw [er]; rfl, by simp [rW, h1], by rw [er] <;> rfl⟩ rfl dX0_count_15 (Nat.le_of_ble_eq_true rfl) (Nat.le_of_ble_eq_true rfl))
set_option maxRecDepth 100000 in
set_option maxHeartbeats 4000000 in
theorem c_X0_length (l : Launch) (hs0 : l.stackTraces = false) {loc : Nat → Nat} {n : Nat} {g : Gc} (hn : n ≤ 40) {S0 : RS} {R : Nat} (hR : R ≤ 12) (hrel : S0.1 0 = nI R) {t : Nat} (ht12 : t ≤ 12) (ht : S0.1 1 = nI t) (hw : ∀ q, q < R → byC S0 q = true → wfR S0 q) (x a b : Int32) : TXi l yX0_length cX0_length 4 (some .int) (rmL 9 8 48) loc n g S0 [.int x, .int a, .int b] (fun v S' => S' = measF (stlF S0 n t (ixN x)) n (ixN x) (ixN b) ∧ rabW S0 n x a b = none ∧ v = S'.2.1 7 (ixN a)) (fun E => rabW S0 n x a b = some E) := by
  refine o_enterx (by decide) (Nat.le_of_ble_eq_true rfl) ?_
  intro p e s m below meth c ls S hr hlocks hnt hC hl
  refine lv_aload_n S.1 S.2.1 dX0_length_0 rfl (lv_at hl 0 rfl) ?_
  refine lv_iload_n S.1 S.2.1 dX0_length_1 rfl (lv_at hl 1 rfl) ?_
  refine o_xcallv oiX S hC (c_X0_needRelation l hs0 hn x) cw_RX0_X0_needRelation ⟨rfl, rfl, by decide, by decide⟩ rfl hl.1 rfl (Nat.le_of_ble_eq_true rfl) dX0_length_2 ⟨(Nat.le_of_ble_eq_true rfl), (Nat.le_of_ble_eq_true rfl)⟩ hnt hlocks ⟨(Nat.le_of_ble_eq_true rfl), (Nat.le_of_ble_eq_true rfl)⟩ (fun E h => by simp [rabW, h.1, h.2]) (fun S1 H locs hp hC1 => ?_)
  obtain ⟨e1, hp⟩ := hp
  rw [e1] at hC1; replace hC := hC1
  have h1 := hp
  rw [hrel] at hp
  obtain ⟨r, hrR, rfl⟩ := inI_t (by omega) hp
  have er : ixN (nI r) = r := ixN_nI (by omega)
  have hr12 : r < 12 := by omega
  refine lv_aload_n S.1 S.2.1 dX0_length_5 rfl (lv_at hl 0 rfl) ?_
  refine lv_iload_n S.1 S.2.1 dX0_length_6 rfl (lv_at hl 2 rfl) ?_
  refine o_xcallv oiX S hC (c_X0_needThing l hs0 hn a) cw_RX0_X0_needThing ⟨rfl, rfl, by decide, by decide⟩ rfl hl.1 rfl (Nat.le_of_ble_eq_true rfl) dX0_length_7 ⟨(Nat.le_of_ble_eq_true rfl), (Nat.le_of_ble_eq_true rfl)⟩ hnt hlocks ⟨(Nat.le_of_ble_eq_true rfl), (Nat.le_of_ble_eq_true rfl)⟩ (fun E h => by simp [rabW, h1, h.1, h.2]) (fun S1 H locs hp hC1 => ?_)
  obtain ⟨e1, hp⟩ := hp
  rw [e1] at hC1; replace hC := hC1
  have h2 := hp
  obtain ⟨a, ha, rfl⟩ := inI_t (by omega) h2
  have ea : ixN (nI a) = a := ixN_nI (by omega)
  refine lv_aload_n S.1 S.2.1 dX0_length_10 rfl (lv_at hl 0 rfl) ?_
  refine lv_iload_n S.1 S.2.1 dX0_length_11 rfl (lv_at hl 3 rfl) ?_
  refine o_xcallv oiX S hC (c_X0_needThing l hs0 hn b) cw_RX0_X0_needThing ⟨rfl, rfl, by decide, by decide⟩ rfl hl.1 rfl (Nat.le_of_ble_eq_true rfl) dX0_length_12 ⟨(Nat.le_of_ble_eq_true rfl), (Nat.le_of_ble_eq_true rfl)⟩ hnt hlocks ⟨(Nat.le_of_ble_eq_true rfl), (Nat.le_of_ble_eq_true rfl)⟩ (fun E h => by simp [rabW, h1, h2, h.1, h.2]) (fun S1 H locs hp hC1 => ?_)
  obtain ⟨e1, hp⟩ := hp
  rw [e1] at hC1; replace hC := hC1
  have h3 := hp
  obtain ⟨b, hb, rfl⟩ := inI_t (by omega) h3
  have eb : ixN (nI b) = b := ixN_nI (by omega)
  refine lv_aload_n S.1 S.2.1 dX0_length_15 rfl (lv_at hl 0 rfl) ?_
  refine lv_iload_n S.1 S.2.1 dX0_length_16 rfl (lv_at hl 1 rfl) ?_
  refine o_callv oiX S hC (c_X0_settle l hn hr12 ht12 ht (fun q hq => hw q (by omega))) cw_RX0_X0_settle ⟨rfl, rfl, by decide, by decide⟩ rfl hl.1 rfl (Nat.le_of_ble_eq_true rfl) dX0_length_17 ⟨(Nat.le_of_ble_eq_true rfl), (Nat.le_of_ble_eq_true rfl)⟩ (fun S1 H locs hp hC1 => ?_)
  have e1 := hp
  rw [e1] at hC1; replace hC := hC1
  refine lv_aload_n S.1 S.2.1 dX0_length_20 rfl (lv_at hl 0 rfl) ?_
  refine lv_iload_n S.1 S.2.1 dX0_length_21 rfl (lv_at hl 1 rfl) ?_
  refine lv_iload_n S.1 S.2.1 dX0_length_22 rfl (lv_at hl 3 rfl) ?_
  refine o_callv oiX S hC (c_X0_measureSteps l hn hr12 hb) cw_RX0_X0_measureSteps ⟨rfl, rfl, by decide, by decide⟩ rfl hl.1 rfl (Nat.le_of_ble_eq_true rfl) dX0_length_23 ⟨(Nat.le_of_ble_eq_true rfl), (Nat.le_of_ble_eq_true rfl)⟩ (fun S1 H locs hp hC1 => ?_)
  have e1 := hp
  rw [e1] at hC1; replace hC := hC1
  refine lv_aload_n S.1 S.2.1 dX0_length_26 rfl (lv_at hl 0 rfl) ?_
  refine x_get_steps S hC dX0_length_27 ?_
  refine lv_iload_n S.1 S.2.1 dX0_length_30 rfl (lv_at hl 2 rfl) ?_
  refine x_ild S hC hn 7 (by decide) ha dX0_length_31 ?_
  exact vx_ret (o_iret S hr hlocks hC ⟨by rw [er, eb]; rfl, by simp [rabW, h1, h2, h3], by rw [ea] <;> rfl⟩ rfl dX0_length_32 (Nat.le_of_ble_eq_true rfl) (Nat.le_of_ble_eq_true rfl))
def leadW (S : RS) (n : Nat) (x a : Int32) : Option String := if inI x (S.1 0) = false then some iaeS else if inI a (nI n) = false then some iaeS else if ¬ S.2.1 2 (ixN x) = nI 6 then some iseS else if ofK S (ixN a) (S.2.1 3 (ixN x)) = false then some iaeS else none
set_option maxRecDepth 100000 in
set_option maxHeartbeats 4000000 in
theorem c_X0_leader (l : Launch) (hs0 : l.stackTraces = false) {loc : Nat → Nat} {n : Nat} {g : Gc} (hn : n ≤ 40) {S0 : RS} {R : Nat} (hR : R ≤ 12) (hrel : S0.1 0 = nI R) (x a : Int32) : TXi l yX0_leader cX0_leader 3 (some .int) (rmL 9 8 48) loc n g S0 [.int x, .int a] (fun v S' => S' = S0 ∧ leadW S0 n x a = none ∧ v = ntzL (S0.2.2 (ixN x) (ixN a))) (fun E => leadW S0 n x a = some E) := by
  refine o_enterx (by decide) (Nat.le_of_ble_eq_true rfl) ?_
  intro p e s m below meth c ls S hr hlocks hnt hC hl
  refine lv_aload_n S.1 S.2.1 dX0_leader_0 rfl (lv_at hl 0 rfl) ?_
  refine lv_iload_n S.1 S.2.1 dX0_leader_1 rfl (lv_at hl 1 rfl) ?_
  refine o_xcallv oiX S hC (c_X0_needRelation l hs0 hn x) cw_RX0_X0_needRelation ⟨rfl, rfl, by decide, by decide⟩ rfl hl.1 rfl (Nat.le_of_ble_eq_true rfl) dX0_leader_2 ⟨(Nat.le_of_ble_eq_true rfl), (Nat.le_of_ble_eq_true rfl)⟩ hnt hlocks ⟨(Nat.le_of_ble_eq_true rfl), (Nat.le_of_ble_eq_true rfl)⟩ (fun E h => by simp [leadW, h.1, h.2]) (fun S1 H locs hp hC1 => ?_)
  obtain ⟨e1, hp⟩ := hp
  rw [e1] at hC1; replace hC := hC1
  have h1 := hp
  rw [hrel] at hp
  obtain ⟨r, hrR, rfl⟩ := inI_t (by omega) hp
  have er : ixN (nI r) = r := ixN_nI (by omega)
  have hr12 : r < 12 := by omega
  refine lv_aload_n S.1 S.2.1 dX0_leader_5 rfl (lv_at hl 0 rfl) ?_
  refine lv_iload_n S.1 S.2.1 dX0_leader_6 rfl (lv_at hl 2 rfl) ?_
  refine o_xcallv oiX S hC (c_X0_needThing l hs0 hn a) cw_RX0_X0_needThing ⟨rfl, rfl, by decide, by decide⟩ rfl hl.1 rfl (Nat.le_of_ble_eq_true rfl) dX0_leader_7 ⟨(Nat.le_of_ble_eq_true rfl), (Nat.le_of_ble_eq_true rfl)⟩ hnt hlocks ⟨(Nat.le_of_ble_eq_true rfl), (Nat.le_of_ble_eq_true rfl)⟩ (fun E h => by simp [leadW, h1, h.1, h.2]) (fun S1 H locs hp hC1 => ?_)
  obtain ⟨e1, hp⟩ := hp
  rw [e1] at hC1; replace hC := hC1
  have h2 := hp
  obtain ⟨a, ha, rfl⟩ := inI_t (by omega) h2
  have ea : ixN (nI a) = a := ixN_nI (by omega)
  refine lv_aload_n S.1 S.2.1 dX0_leader_10 rfl (lv_at hl 0 rfl) ?_
  refine x_get_forms S hC dX0_leader_11 ?_
  refine lv_iload_n S.1 S.2.1 dX0_leader_14 rfl (lv_at hl 1 rfl) ?_
  refine x_ild S hC hn 2 (by decide) hr12 dX0_leader_15 ?_
  refine lv_bipush (v := nI 6) S.1 S.2.1 dX0_leader_16 rfl ?_
  refine lv_icmp_eq (tgt := 31) S.1 S.2.1 dX0_leader_18 (by decide) (fun c18 => ?_) (fun c18 => ?_)
  · skip
    refine lv_aload_n S.1 S.2.1 dX0_leader_31 rfl (lv_at hl 0 rfl) ?_
    refine lv_iload_n S.1 S.2.1 dX0_leader_32 rfl (lv_at hl 2 rfl) ?_
    refine lv_aload_n S.1 S.2.1 dX0_leader_33 rfl (lv_at hl 0 rfl) ?_
    refine x_get_firsts S hC dX0_leader_34 ?_
    refine lv_iload_n S.1 S.2.1 dX0_leader_37 rfl (lv_at hl 1 rfl) ?_
    refine x_ild S hC hn 3 (by decide) hr12 dX0_leader_38 ?_
    refine o_calli oiX S hC (c_X0_isOfKind l hn ha _) cw_RX0_X0_isOfKind ⟨rfl, rfl, by decide, by decide⟩ rfl hl.1 rfl (Nat.le_of_ble_eq_true rfl) dX0_leader_39 ⟨(Nat.le_of_ble_eq_true rfl), (Nat.le_of_ble_eq_true rfl)⟩ (fun r39 S1 H locs hp hC1 => ?_)
    obtain ⟨e1, hp⟩ := hp
    rw [e1] at hC1; replace hC := hC1
    subst hp
    refine b_if_ne (tgt := 55) S.1 S.2.1 dX0_leader_42 (by decide) (fun c42 => ?_) (fun c42 => ?_)
    · skip
      refine lv_aload_n S.1 S.2.1 dX0_leader_55 rfl (lv_at hl 0 rfl) ?_
      refine x_get_rows S hC dX0_leader_56 ?_
      refine lv_iload_n S.1 S.2.1 dX0_leader_59 rfl (lv_at hl 1 rfl) ?_
      refine x_aald S hC hr12 dX0_leader_60 ?_
      refine lv_iload_n S.1 S.2.1 dX0_leader_61 rfl (lv_at hl 2 rfl) ?_
      refine x_lld S hC hn hr12 ha dX0_leader_62 ?_
      refine s_calli S (c_J13_numberOfTrailingZeros_95d88 l _) cw_RX0_J13_numberOfTrailingZeros_95d88 ⟨rfl, rfl, by decide, by decide⟩ rfl hl.1 rfl (Nat.le_of_ble_eq_true rfl) dX0_leader_63 ⟨(Nat.le_of_ble_eq_true rfl), (Nat.le_of_ble_eq_true rfl)⟩ (fun r63 hp => ?_)
      subst hp
      exact vx_ret (o_iret S hr hlocks hC ⟨rfl, by simp [leadW, h1, h2, er, ea, c18, c42], by rw [er, ea]⟩ rfl dX0_leader_66 (Nat.le_of_ble_eq_true rfl) (Nat.le_of_ble_eq_true rfl))
    · skip
      exact x_throw_iae (tx := "the thing is of another kind") hs0 S hC (by decide) hnt hlocks hl.1 (by simp [leadW, h1, h2, er, ea, c18, c42]) dX0_leader_45 dX0_leader_48 dX0_leader_49 dX0_leader_51 dX0_leader_54 ⟨(Nat.le_of_ble_eq_true rfl), (Nat.le_of_ble_eq_true rfl), (Nat.le_of_ble_eq_true rfl), (Nat.le_of_ble_eq_true rfl)⟩ ⟨(Nat.le_of_ble_eq_true rfl), (Nat.le_of_ble_eq_true rfl)⟩
  · skip
    exact x_throw_ise (tx := "the relation has no classes") hs0 S hC (by decide) hnt hlocks hl.1 (by simp [leadW, h1, h2, er, c18]) dX0_leader_21 dX0_leader_24 dX0_leader_25 dX0_leader_27 dX0_leader_30 ⟨(Nat.le_of_ble_eq_true rfl), (Nat.le_of_ble_eq_true rfl), (Nat.le_of_ble_eq_true rfl), (Nat.le_of_ble_eq_true rfl)⟩ ⟨(Nat.le_of_ble_eq_true rfl), (Nat.le_of_ble_eq_true rfl)⟩
def rsW (S : RS) (x y : Int32) : Option String := if inI x (S.1 0) = false then some iaeS else if inI y (S.1 0) = false then some iaeS else none
def difG (S : RS) (r q : Nat) : Nat → Nat → Int32
  | 0, _ => -1
  | k + 1, a => if S.2.2 r a ^^^ S.2.2 q a = 0 then difG S r q k (a + 1) else nI (a * 40) + ntzL (S.2.2 r a ^^^ S.2.2 q a)
set_option maxRecDepth 100000 in
set_option maxHeartbeats 4000000 in
theorem c_X0_differ (l : Launch) (hs0 : l.stackTraces = false) {loc : Nat → Nat} {n : Nat} {g : Gc} (hn : n ≤ 40) {S0 : RS} {R : Nat} (hR : R ≤ 12) (hrel : S0.1 0 = nI R) {t : Nat} (ht12 : t ≤ 12) (ht : S0.1 1 = nI t) (hw : ∀ q, q < R → byC S0 q = true → wfR S0 q) (x y : Int32) : TXi l yX0_differ cX0_differ 6 (some .int) (rmL 9 8 48) loc n g S0 [.int x, .int y] (fun v S' => S' = stlF S0 n t (max (ixN x) (ixN y)) ∧ rsW S0 x y = none ∧ v = difG S' (ixN x) (ixN y) n 0) (fun E => rsW S0 x y = some E) := by
  refine o_enterx (by decide) (Nat.le_of_ble_eq_true rfl) ?_
  intro p e s m below meth c ls S hr hlocks hnt hC hl
  refine lv_aload_n S.1 S.2.1 dX0_differ_0 rfl (lv_at hl 0 rfl) ?_
  refine lv_iload_n S.1 S.2.1 dX0_differ_1 rfl (lv_at hl 1 rfl) ?_
  refine o_xcallv oiX S hC (c_X0_needRelation l hs0 hn x) cw_RX0_X0_needRelation ⟨rfl, rfl, by decide, by decide⟩ rfl hl.1 rfl (Nat.le_of_ble_eq_true rfl) dX0_differ_2 ⟨(Nat.le_of_ble_eq_true rfl), (Nat.le_of_ble_eq_true rfl)⟩ hnt hlocks ⟨(Nat.le_of_ble_eq_true rfl), (Nat.le_of_ble_eq_true rfl)⟩ (fun E h => by simp [rsW, h.1, h.2]) (fun S1 H locs hp hC1 => ?_)
  obtain ⟨e1, hp⟩ := hp
  rw [e1] at hC1; replace hC := hC1
  have h1 := hp
  rw [hrel] at hp
  obtain ⟨r, hrR, e0x⟩ := inI_t (by omega) hp
  have er : ixN x = r := by rw [e0x]; exact ixN_nI (by omega)
  have hr12 : r < 12 := by omega
  rw [e0x] at hl
  refine lv_aload_n S.1 S.2.1 dX0_differ_5 rfl (lv_at hl 0 rfl) ?_
  refine lv_iload_n S.1 S.2.1 dX0_differ_6 rfl (lv_at hl 2 rfl) ?_
  refine o_xcallv oiX S hC (c_X0_needRelation l hs0 hn y) cw_RX0_X0_needRelation ⟨rfl, rfl, by decide, by decide⟩ rfl hl.1 rfl (Nat.le_of_ble_eq_true rfl) dX0_differ_7 ⟨(Nat.le_of_ble_eq_true rfl), (Nat.le_of_ble_eq_true rfl)⟩ hnt hlocks ⟨(Nat.le_of_ble_eq_true rfl), (Nat.le_of_ble_eq_true rfl)⟩ (fun E h => by simp [rsW, h1, h.1, h.2]) (fun S1 H locs hp hC1 => ?_)
  obtain ⟨e1, hp⟩ := hp
  rw [e1] at hC1; replace hC := hC1
  have h2 := hp
  rw [hrel] at hp
  obtain ⟨q, hqR, e0y⟩ := inI_t (by omega) hp
  have eq : ixN y = q := by rw [e0y]; exact ixN_nI (by omega)
  have hq12 : q < 12 := by omega
  rw [e0y] at hl
  refine lv_aload_n S.1 S.2.1 dX0_differ_10 rfl (lv_at hl 0 rfl) ?_
  refine lv_iload_n S.1 S.2.1 dX0_differ_11 rfl (lv_at hl 1 rfl) ?_
  refine lv_iload_n S.1 S.2.1 dX0_differ_12 rfl (lv_at hl 2 rfl) ?_
  refine x_max S hl.1 (by omega) (by omega) ⟨(Nat.le_of_ble_eq_true rfl), (Nat.le_of_ble_eq_true rfl), (Nat.le_of_ble_eq_true rfl), (Nat.le_of_ble_eq_true rfl)⟩ dX0_differ_13 ?_
  refine o_callv oiX S hC (c_X0_settle l hn (r := max r q) (by omega) ht12 ht (fun q' hq => hw q' (by omega))) cw_RX0_X0_settle ⟨rfl, rfl, by decide, by decide⟩ rfl hl.1 rfl (Nat.le_of_ble_eq_true rfl) dX0_differ_16 ⟨(Nat.le_of_ble_eq_true rfl), (Nat.le_of_ble_eq_true rfl)⟩ (fun S1 H locs hp hC1 => ?_)
  have e1 := hp
  rw [e1] at hC1; replace hC := hC1
  replace hC : CX loc n g (stlF S0 n t (max r q)) s H locs := hC
  refine W.widen (k := 8) (n := 48) (Nat.le_of_ble_eq_true rfl) (Nat.le_of_ble_eq_true rfl) ?_
  refine lv_iconst (v := nI 0) S.1 S.2.1 dX0_differ_19 rfl ?_
  refine lv_istore_n S.1 S.2.1 dX0_differ_20 rfl hl (by decide) rfl (fun ls hl => ?_)
  have loop : ∀ (k i : Nat), n - i < k → i ≤ n → ∀ (hT : difG (stlF S0 n t (max r q)) r q n 0 = difG (stlF S0 n t (max r q)) r q (n - i) i), ∀ (H : Heap) (locs : List Loc) (ls : Array Slot), CX loc n g ((stlF S0 n t (max r q))) s H locs → lv_has ls 6 [(0, .ref (loc 0)), (1, .int (nI r)), (2, .int (nI q)), (3, .int (nI i))] → W p l e (rmL 9 8 48) s m ([.ref (loc 0), .int x, .int y] : List Value).toArray below meth c H locs 8 48 (vx_MQ below (va_Qi (fun v S' => S' = stlF S0 n t (max (ixN x) (ixN y)) ∧ rsW S0 x y = none ∧ v = difG S' (ixN x) (ixN y) n 0) (fun S' t => HX loc n g S' t.heap) (ZA loc 21)) (Xc (HX loc n g) S0 (ZA loc 21) (fun E => rsW S0 x y = some E)) ([.ref (loc 0), .int x, .int y] : List Value).toArray s (rmL 9 8 48).cells (rmL 9 8 48).slots (ZA loc 21)) (F0 m 21 ls []) := by
    intro k
    induction k with
    | zero => intro i hk; omega
    | succ k ih =>
      intro i hk hi hT H locs ls hC hl
      refine lv_iload_n S.1 S.2.1 dX0_differ_21 rfl (lv_at hl 3 rfl) ?_
      refine lv_aload_n S.1 S.2.1 dX0_differ_22 rfl (lv_at hl 0 rfl) ?_
      refine x_get_things S hC dX0_differ_23 ?_
      refine n_icmp_ge (tgt := 72) S.1 S.2.1 dX0_differ_26 (by decide) (by omega) (by omega) (fun c26 => ?_) (fun c26 => ?_)
      · skip
        refine lv_iconst (v := -1) S.1 S.2.1 dX0_differ_72 rfl ?_
        exact vx_ret (o_iret S hr hlocks hC ⟨by rw [er, eq], by simp [rsW, h1, h2], by rw [er, eq, hT, show n - i = 0 by omega, difG]⟩ rfl dX0_differ_73 (Nat.le_of_ble_eq_true rfl) (Nat.le_of_ble_eq_true rfl))
      · skip
        refine lv_aload_n S.1 S.2.1 dX0_differ_29 rfl (lv_at hl 0 rfl) ?_
        refine x_get_rows S hC dX0_differ_30 ?_
        refine lv_iload_n S.1 S.2.1 dX0_differ_33 rfl (lv_at hl 1 rfl) ?_
        refine x_aald S hC hr12 dX0_differ_34 ?_
        refine lv_iload_n S.1 S.2.1 dX0_differ_35 rfl (lv_at hl 3 rfl) ?_
        refine x_lld S hC hn hr12 (show i < n by omega) dX0_differ_36 ?_
        refine lv_aload_n S.1 S.2.1 dX0_differ_37 rfl (lv_at hl 0 rfl) ?_
        refine x_get_rows S hC dX0_differ_38 ?_
        refine lv_iload_n S.1 S.2.1 dX0_differ_41 rfl (lv_at hl 2 rfl) ?_
        refine x_aald S hC hq12 dX0_differ_42 ?_
        refine lv_iload_n S.1 S.2.1 dX0_differ_43 rfl (lv_at hl 3 rfl) ?_
        refine x_lld S hC hn hq12 (show i < n by omega) dX0_differ_44 ?_
        refine lv_lxor S.1 S.2.1 dX0_differ_45 ?_
        refine lv_lstore S.1 S.2.1 dX0_differ_46 hl (by decide) rfl (fun ls hl => ?_)
        refine lv_lload S.1 S.2.1 dX0_differ_48 (lv_at hl 0 rfl) ?_
        refine lv_lconst (v := 0) S.1 S.2.1 dX0_differ_50 rfl ?_
        refine W.lcmp S.1 S.2.1 dX0_differ_51 ?_
        refine lv_if_eq (tgt := 66) S.1 S.2.1 dX0_differ_52 (by decide) (fun c52 => ?_) (fun c52 => ?_)
        · skip
          refine lv_iinc (k := 4) S.1 S.2.1 dX0_differ_66 hl rfl (n_inc _) (by decide) rfl (fun ls hl => ?_)
          refine lv_goto (tgt := 21) S.1 S.2.1 dX0_differ_69 (by decide) ?_
          exact ih (i + 1) (by omega) (by omega) (by rw [hT, show n - i = (n - (i + 1)) + 1 by omega, difG, if_pos ((lg_cmp_eq _ _).mp c52)]) _ _ _ hC (lv_sub hl [2, 3, 4, 0] rfl)
        · skip
          refine lv_iload_n S.1 S.2.1 dX0_differ_55 rfl (lv_at hl 4 rfl) ?_
          refine lv_bipush (v := nI 40) S.1 S.2.1 dX0_differ_56 rfl ?_
          refine t_imul S.1 S.2.1 dX0_differ_58 (pk_mul _ _) ?_
          refine lv_lload S.1 S.2.1 dX0_differ_59 (lv_at hl 0 rfl) ?_
          refine s_calli S (c_J13_numberOfTrailingZeros_95d88 l _) cw_RX0_J13_numberOfTrailingZeros_95d88 ⟨rfl, rfl, by decide, by decide⟩ rfl hl.1 rfl (Nat.le_of_ble_eq_true rfl) dX0_differ_61 ⟨(Nat.le_of_ble_eq_true rfl), (Nat.le_of_ble_eq_true rfl)⟩ (fun r61 hp => ?_)
          subst hp
          refine lv_iadd S.1 S.2.1 dX0_differ_64 ?_
          exact vx_ret (o_iret S hr hlocks hC ⟨by rw [er, eq], by simp [rsW, h1, h2], by rw [er, eq, hT, show n - i = (n - (i + 1)) + 1 by omega, difG, if_neg (fun q => c52 ((lg_cmp_eq _ _).mpr q))]⟩ rfl dX0_differ_65 (Nat.le_of_ble_eq_true rfl) (Nat.le_of_ble_eq_true rfl))
  exact loop (n + 1) 0 (by omega) (by omega) rfl _ _ _ hC (lv_sub hl [1, 2, 3, 0] rfl)
def talW (n : Nat) (a b : Int32) : Option String := if inI a (nI n) = false ∨ inI b (nI n) = false then some aioS else none
set_option maxRecDepth 100000 in
set_option maxHeartbeats 4000000 in
theorem c_X0_tally (l : Launch) (hs0 : l.stackTraces = false) {loc : Nat → Nat} {n : Nat} {g : Gc} (hn : n ≤ 40) {S0 : RS} (a b : Int32) : TXi l yX0_tally cX0_tally 3 (some .int) (rmL 9 8 48) loc n g S0 [.int a, .int b] (fun v S' => S' = S0 ∧ talW n a b = none ∧ v = S0.2.1 1 (ixN a * n + ixN b)) (fun E => talW n a b = some E) := by
  refine o_enterx (by decide) (Nat.le_of_ble_eq_true rfl) ?_
  intro p e s m below meth c ls S hr hlocks hnt hC hl
  refine lv_aload_n S.1 S.2.1 dX0_tally_0 rfl (lv_at hl 0 rfl) ?_
  refine lv_iload_n S.1 S.2.1 dX0_tally_1 rfl (lv_at hl 1 rfl) ?_
  refine o_calli oiX S hC (c_X0_isThing l hn a) cw_RX0_X0_isThing ⟨rfl, rfl, by decide, by decide⟩ rfl hl.1 rfl (Nat.le_of_ble_eq_true rfl) dX0_tally_2 ⟨(Nat.le_of_ble_eq_true rfl), (Nat.le_of_ble_eq_true rfl)⟩ (fun r2 S1 H locs hp hC1 => ?_)
  obtain ⟨e1, hp⟩ := hp
  rw [e1] at hC1; replace hC := hC1
  subst hp
  refine b_if_eq (tgt := 16) S.1 S.2.1 dX0_tally_5 (by decide) (fun c5 => ?_) (fun c5 => ?_)
  · skip
    exact x_throw_aio (tx := "no such thing") hs0 S hC (by decide) hnt hlocks hl.1 (by simp [talW, c5]) dX0_tally_16 dX0_tally_19 dX0_tally_20 dX0_tally_22 dX0_tally_25 ⟨(Nat.le_of_ble_eq_true rfl), (Nat.le_of_ble_eq_true rfl), (Nat.le_of_ble_eq_true rfl), (Nat.le_of_ble_eq_true rfl)⟩ ⟨(Nat.le_of_ble_eq_true rfl), (Nat.le_of_ble_eq_true rfl)⟩
  · skip
    refine lv_aload_n S.1 S.2.1 dX0_tally_8 rfl (lv_at hl 0 rfl) ?_
    refine lv_iload_n S.1 S.2.1 dX0_tally_9 rfl (lv_at hl 2 rfl) ?_
    refine o_calli oiX S hC (c_X0_isThing l hn b) cw_RX0_X0_isThing ⟨rfl, rfl, by decide, by decide⟩ rfl hl.1 rfl (Nat.le_of_ble_eq_true rfl) dX0_tally_10 ⟨(Nat.le_of_ble_eq_true rfl), (Nat.le_of_ble_eq_true rfl)⟩ (fun r10 S1 H locs hp hC1 => ?_)
    obtain ⟨e1, hp⟩ := hp
    rw [e1] at hC1; replace hC := hC1
    subst hp
    refine b_if_ne (tgt := 26) S.1 S.2.1 dX0_tally_13 (by decide) (fun c13 => ?_) (fun c13 => ?_)
    · obtain ⟨a, ha, rfl⟩ := inI_t (by omega) c5
      obtain ⟨b, hb, rfl⟩ := inI_t (by omega) c13
      have ea : ixN (nI a) = a := ixN_nI (by omega)
      have eb : ixN (nI b) = b := ixN_nI (by omega)
      refine lv_aload_n S.1 S.2.1 dX0_tally_26 rfl (lv_at hl 0 rfl) ?_
      refine x_get_tallies S hC dX0_tally_27 ?_
      refine lv_iload_n S.1 S.2.1 dX0_tally_30 rfl (lv_at hl 1 rfl) ?_
      refine lv_aload_n S.1 S.2.1 dX0_tally_31 rfl (lv_at hl 0 rfl) ?_
      refine x_get_things S hC dX0_tally_32 ?_
      refine t_imul S.1 S.2.1 dX0_tally_35 (pk_mul _ _) ?_
      refine lv_iload_n S.1 S.2.1 dX0_tally_36 rfl (lv_at hl 2 rfl) ?_
      refine t_iadd S.1 S.2.1 dX0_tally_37 (nI_add _ _) ?_
      refine x_ild S hC hn 1 (by decide) (show a * n + b < n * n from idx_lt ha hb) dX0_tally_38 ?_
      exact vx_ret (o_iret S hr hlocks hC ⟨rfl, by simp [talW, c5, c13], by rw [ea, eb]⟩ rfl dX0_tally_39 (Nat.le_of_ble_eq_true rfl) (Nat.le_of_ble_eq_true rfl))
    · skip
      exact x_throw_aio (tx := "no such thing") hs0 S hC (by decide) hnt hlocks hl.1 (by simp [talW, c13]) dX0_tally_16 dX0_tally_19 dX0_tally_20 dX0_tally_22 dX0_tally_25 ⟨(Nat.le_of_ble_eq_true rfl), (Nat.le_of_ble_eq_true rfl), (Nat.le_of_ble_eq_true rfl), (Nat.le_of_ble_eq_true rfl)⟩ ⟨(Nat.le_of_ble_eq_true rfl), (Nat.le_of_ble_eq_true rfl)⟩
def ofW (w : Int32) : Option String := if ¬ w = nI 0 ∧ ¬ w = nI 1 ∧ ¬ w = nI 2 then some iaeS else none
set_option maxRecDepth 100000 in
set_option maxHeartbeats 4000000 in
theorem c_X0_of (l : Launch) (hs0 : l.stackTraces = false) {loc : Nat → Nat} {n : Nat} {g : Gc} (hn : n ≤ 40) {S0 : RS} (w : Int32) : TXi l yX0_of cX0_of 2 (some .int) (rmL 9 8 48) loc n g S0 [.int w] (fun v S' => S' = S0 ∧ ofW w = none ∧ v = (if w = nI 0 then nI n else if w = nI 1 then S0.1 0 else S0.1 2)) (fun E => ofW w = some E) := by
  refine o_enterx (by decide) (Nat.le_of_ble_eq_true rfl) ?_
  intro p e s m below meth c ls S hr hlocks hnt hC hl
  refine lv_iload_n S.1 S.2.1 dX0_of_0 rfl (lv_at hl 1 rfl) ?_
  have hsw1 := trivial
  by_cases h1_0 : w = nI 0
  · refine lv_tableIn (off := 27) (tgt := 28) S.1 S.2.1 dX0_of_1 (by rw [h1_0]; decide) (by rw [h1_0]; decide) (by rw [h1_0]; rfl) (by decide) ?_
    refine lv_aload_n S.1 S.2.1 dX0_of_28 rfl (lv_at hl 0 rfl) ?_
    refine x_get_things S hC dX0_of_29 ?_
    exact vx_ret (o_iret S hr hlocks hC ⟨rfl, by simp [ofW, h1_0], by rw [if_pos h1_0]⟩ rfl dX0_of_32 (Nat.le_of_ble_eq_true rfl) (Nat.le_of_ble_eq_true rfl))
  · skip
    by_cases h1_1 : w = nI 1
    · refine lv_tableIn (off := 32) (tgt := 33) S.1 S.2.1 dX0_of_1 (by rw [h1_1]; decide) (by rw [h1_1]; decide) (by rw [h1_1]; rfl) (by decide) ?_
      refine lv_aload_n S.1 S.2.1 dX0_of_33 rfl (lv_at hl 0 rfl) ?_
      refine x_get_relations S hC dX0_of_34 ?_
      exact vx_ret (o_iret S hr hlocks hC ⟨rfl, by simp [ofW, h1_1], by rw [if_neg h1_0, if_pos h1_1]⟩ rfl dX0_of_37 (Nat.le_of_ble_eq_true rfl) (Nat.le_of_ble_eq_true rfl))
    · skip
      by_cases h1_2 : w = nI 2
      · refine lv_tableIn (off := 37) (tgt := 38) S.1 S.2.1 dX0_of_1 (by rw [h1_2]; decide) (by rw [h1_2]; decide) (by rw [h1_2]; rfl) (by decide) ?_
        refine lv_aload_n S.1 S.2.1 dX0_of_38 rfl (lv_at hl 0 rfl) ?_
        refine x_get_pushedCount S hC dX0_of_39 ?_
        exact vx_ret (o_iret S hr hlocks hC ⟨rfl, by simp [ofW, h1_2], by rw [if_neg h1_0, if_neg h1_1]⟩ rfl dX0_of_42 (Nat.le_of_ble_eq_true rfl) (Nat.le_of_ble_eq_true rfl))
      · skip
        refine lv_tableOut (tgt := 43) S.1 S.2.1 dX0_of_1 (tsw_out 2 (fun j hj => by rcases (show j = 0 ∨ j = 1 ∨ j = 2 by omega) with rfl | rfl | rfl <;> assumption)) (by decide) ?_
        exact x_throw_iae (tx := "what is 0, 1 or 2") hs0 S hC (by decide) hnt hlocks hl.1 (by simp [ofW, h1_0, h1_1, h1_2]) dX0_of_43 dX0_of_46 dX0_of_47 dX0_of_49 dX0_of_52 ⟨(Nat.le_of_ble_eq_true rfl), (Nat.le_of_ble_eq_true rfl), (Nat.le_of_ble_eq_true rfl), (Nat.le_of_ble_eq_true rfl)⟩ ⟨(Nat.le_of_ble_eq_true rfl), (Nat.le_of_ble_eq_true rfl)⟩
def toldW (S : RS) (x w : Int32) : Option String := if inI x (S.1 0) = false then some iaeS else if ¬ w = nI 0 ∧ ¬ w = nI 1 ∧ ¬ w = nI 2 then some iaeS else none
set_option maxRecDepth 100000 in
set_option maxHeartbeats 4000000 in
theorem c_X0_told (l : Launch) (hs0 : l.stackTraces = false) {loc : Nat → Nat} {n : Nat} {g : Gc} (hn : n ≤ 40) {S0 : RS} {R : Nat} (hR : R ≤ 12) (hrel : S0.1 0 = nI R) (x w : Int32) : TXi l yX0_told cX0_told 3 (some .int) (rmL 9 8 48) loc n g S0 [.int x, .int w] (fun v S' => S' = S0 ∧ toldW S0 x w = none ∧ v = (if w = nI 0 then S0.2.1 2 (ixN x) else if w = nI 1 then S0.2.1 3 (ixN x) else S0.2.1 4 (ixN x))) (fun E => toldW S0 x w = some E) := by
  refine o_enterx (by decide) (Nat.le_of_ble_eq_true rfl) ?_
  intro p e s m below meth c ls S hr hlocks hnt hC hl
  refine lv_aload_n S.1 S.2.1 dX0_told_0 rfl (lv_at hl 0 rfl) ?_
  refine lv_iload_n S.1 S.2.1 dX0_told_1 rfl (lv_at hl 1 rfl) ?_
  refine o_xcallv oiX S hC (c_X0_needRelation l hs0 hn x) cw_RX0_X0_needRelation ⟨rfl, rfl, by decide, by decide⟩ rfl hl.1 rfl (Nat.le_of_ble_eq_true rfl) dX0_told_2 ⟨(Nat.le_of_ble_eq_true rfl), (Nat.le_of_ble_eq_true rfl)⟩ hnt hlocks ⟨(Nat.le_of_ble_eq_true rfl), (Nat.le_of_ble_eq_true rfl)⟩ (fun E h => by simp [toldW, h.1, h.2]) (fun S1 H locs hp hC1 => ?_)
  obtain ⟨e1, hp⟩ := hp
  rw [e1] at hC1; replace hC := hC1
  have h1 := hp
  rw [hrel] at hp
  obtain ⟨r, hrR, rfl⟩ := inI_t (by omega) hp
  have er : ixN (nI r) = r := ixN_nI (by omega)
  have hr12 : r < 12 := by omega
  refine lv_iload_n S.1 S.2.1 dX0_told_5 rfl (lv_at hl 2 rfl) ?_
  have hsw6 := trivial
  by_cases h6_0 : w = nI 0
  · refine lv_tableIn (off := 26) (tgt := 32) S.1 S.2.1 dX0_told_6 (by rw [h6_0]; decide) (by rw [h6_0]; decide) (by rw [h6_0]; rfl) (by decide) ?_
    refine lv_aload_n S.1 S.2.1 dX0_told_32 rfl (lv_at hl 0 rfl) ?_
    refine x_get_forms S hC dX0_told_33 ?_
    refine lv_iload_n S.1 S.2.1 dX0_told_36 rfl (lv_at hl 1 rfl) ?_
    refine x_ild S hC hn 2 (by decide) hr12 dX0_told_37 ?_
    exact vx_ret (o_iret S hr hlocks hC ⟨rfl, by simp [toldW, h1, h6_0], by rw [if_pos h6_0, er]⟩ rfl dX0_told_38 (Nat.le_of_ble_eq_true rfl) (Nat.le_of_ble_eq_true rfl))
  · skip
    by_cases h6_1 : w = nI 1
    · refine lv_tableIn (off := 33) (tgt := 39) S.1 S.2.1 dX0_told_6 (by rw [h6_1]; decide) (by rw [h6_1]; decide) (by rw [h6_1]; rfl) (by decide) ?_
      refine lv_aload_n S.1 S.2.1 dX0_told_39 rfl (lv_at hl 0 rfl) ?_
      refine x_get_firsts S hC dX0_told_40 ?_
      refine lv_iload_n S.1 S.2.1 dX0_told_43 rfl (lv_at hl 1 rfl) ?_
      refine x_ild S hC hn 3 (by decide) hr12 dX0_told_44 ?_
      exact vx_ret (o_iret S hr hlocks hC ⟨rfl, by simp [toldW, h1, h6_1], by rw [if_neg h6_0, if_pos h6_1, er]⟩ rfl dX0_told_45 (Nat.le_of_ble_eq_true rfl) (Nat.le_of_ble_eq_true rfl))
    · skip
      by_cases h6_2 : w = nI 2
      · refine lv_tableIn (off := 40) (tgt := 46) S.1 S.2.1 dX0_told_6 (by rw [h6_2]; decide) (by rw [h6_2]; decide) (by rw [h6_2]; rfl) (by decide) ?_
        refine lv_aload_n S.1 S.2.1 dX0_told_46 rfl (lv_at hl 0 rfl) ?_
        refine x_get_seconds S hC dX0_told_47 ?_
        refine lv_iload_n S.1 S.2.1 dX0_told_50 rfl (lv_at hl 1 rfl) ?_
        refine x_ild S hC hn 4 (by decide) hr12 dX0_told_51 ?_
        exact vx_ret (o_iret S hr hlocks hC ⟨rfl, by simp [toldW, h1, h6_2], by rw [if_neg h6_0, if_neg h6_1, er]⟩ rfl dX0_told_52 (Nat.le_of_ble_eq_true rfl) (Nat.le_of_ble_eq_true rfl))
      · skip
        refine lv_tableOut (tgt := 53) S.1 S.2.1 dX0_told_6 (tsw_out 2 (fun j hj => by rcases (show j = 0 ∨ j = 1 ∨ j = 2 by omega) with rfl | rfl | rfl <;> assumption)) (by decide) ?_
        exact x_throw_iae (tx := "what is 0, 1 or 2") hs0 S hC (by decide) hnt hlocks hl.1 (by simp [toldW, h1, h6_0, h6_1, h6_2]) dX0_told_53 dX0_told_56 dX0_told_57 dX0_told_59 dX0_told_62 ⟨(Nat.le_of_ble_eq_true rfl), (Nat.le_of_ble_eq_true rfl), (Nat.le_of_ble_eq_true rfl), (Nat.le_of_ble_eq_true rfl)⟩ ⟨(Nat.le_of_ble_eq_true rfl), (Nat.le_of_ble_eq_true rfl)⟩
def clrF (S : RS) : RS := fillF (fillF (sI (sI (sI S 0 (nI 0)) 1 (nI 0)) 2 (nI 0)) 0 (nI 0)) 1 (nI 0)
set_option maxRecDepth 100000 in
set_option maxHeartbeats 4000000 in
theorem c_X0_clear (l : Launch) {loc : Nat → Nat} {n : Nat} {g : Gc} (hn : n ≤ 40) {S0 : RS} : MXi l yX0_clear cX0_clear 2 (some .int) (rmL 2 0 0) loc n g S0 [] (fun v S' => S' = clrF S0 ∧ v = S0.1 0) := by
  refine o_enter (by decide) (Nat.le_of_ble_eq_true rfl) ?_
  intro p e s m below meth c ls S hr hlocks hC hl
  refine lv_aload_n S.1 S.2.1 dX0_clear_0 rfl (lv_at hl 0 rfl) ?_
  refine x_get_relations S hC dX0_clear_1 ?_
  refine lv_istore_n S.1 S.2.1 dX0_clear_4 rfl hl (by decide) rfl (fun ls hl => ?_)
  refine lv_aload_n S.1 S.2.1 dX0_clear_5 rfl (lv_at hl 1 rfl) ?_
  refine lv_iconst (v := nI 0) S.1 S.2.1 dX0_clear_6 rfl ?_
  refine x_put_relations S hC dX0_clear_7 (fun H locs hC => ?_)
  refine lv_aload_n S.1 S.2.1 dX0_clear_10 rfl (lv_at hl 1 rfl) ?_
  refine lv_iconst (v := nI 0) S.1 S.2.1 dX0_clear_11 rfl ?_
  refine x_put_settled S hC dX0_clear_12 (fun H locs hC => ?_)
  refine lv_aload_n S.1 S.2.1 dX0_clear_15 rfl (lv_at hl 1 rfl) ?_
  refine lv_iconst (v := nI 0) S.1 S.2.1 dX0_clear_16 rfl ?_
  refine x_put_pushedCount S hC dX0_clear_17 (fun H locs hC => ?_)
  refine lv_aload_n S.1 S.2.1 dX0_clear_20 rfl (lv_at hl 1 rfl) ?_
  refine x_get_kinds S hC dX0_clear_21 ?_
  refine lv_iconst (v := nI 0) S.1 S.2.1 dX0_clear_24 rfl ?_
  refine x_fill S hC hn 0 (by decide) hl.1 (Nat.le_of_ble_eq_true rfl) ⟨(Nat.le_of_ble_eq_true rfl), (Nat.le_of_ble_eq_true rfl), (Nat.le_of_ble_eq_true rfl), (Nat.le_of_ble_eq_true rfl)⟩ dX0_clear_25 (fun H locs hC => ?_)
  refine lv_aload_n S.1 S.2.1 dX0_clear_28 rfl (lv_at hl 1 rfl) ?_
  refine x_get_tallies S hC dX0_clear_29 ?_
  refine lv_iconst (v := nI 0) S.1 S.2.1 dX0_clear_32 rfl ?_
  refine x_fill S hC hn 1 (by decide) hl.1 (Nat.le_of_ble_eq_true rfl) ⟨(Nat.le_of_ble_eq_true rfl), (Nat.le_of_ble_eq_true rfl), (Nat.le_of_ble_eq_true rfl), (Nat.le_of_ble_eq_true rfl)⟩ dX0_clear_33 (fun H locs hC => ?_)
  refine lv_iload_n S.1 S.2.1 dX0_clear_36 rfl (lv_at hl 0 rfl) ?_
  exact o_iret S hr hlocks hC ⟨rfl, rfl⟩ rfl dX0_clear_37 (Nat.le_of_ble_eq_true rfl) (Nat.le_of_ble_eq_true rfl)
end
section
set_option maxRecDepth 100000 in
set_option maxHeartbeats 4000000 in
theorem c_X0_next (l : Launch) (hs0 : l.stackTraces = false) {loc : Nat → Nat} {n : Nat} {g : Gc} (hn : n ≤ 40) {S0 : RS} {R : Nat} (hR : R ≤ 12) (hrel : S0.1 0 = nI R) {t : Nat} (ht12 : t ≤ 12) (ht : S0.1 1 = nI t) (hw : ∀ q, q < R → byC S0 q = true → wfR S0 q) (x a i : Int32) : GXi l yX0_next cX0_next 4 (some .int) (rmL 9 8 48) loc n g S0 [.int x, .int a, .int i] (fun v S' => S' = stlF S0 n t (ixN x) ∧ raW S0 n x a = none ∧ pickW (S'.2.2 (ixN x) (ixN a)) i = true ∧ v = ntzL (lowF (S'.2.2 (ixN x) (ixN a)) (ixN i))) (fun E u => (raW S0 n x a = some E ∧ u = S0) ∨ (raW S0 n x a = none ∧ E = nseS ∧ u = stlF S0 n t (ixN x) ∧ pickW (u.2.2 (ixN x) (ixN a)) i = false)) := by
  refine o_enterx (by decide) (Nat.le_of_ble_eq_true rfl) ?_
  intro p e s m below meth c ls S hr hlocks hnt hC hl
  refine lv_aload_n S.1 S.2.1 dX0_next_0 rfl (lv_at hl 0 rfl) ?_
  refine lv_iload_n S.1 S.2.1 dX0_next_1 rfl (lv_at hl 1 rfl) ?_
  refine o_ycallv oiX S hC (c_X0_needRelation l hs0 hn x) cw_RX0_X0_needRelation ⟨rfl, rfl, by decide, by decide⟩ rfl hl.1 rfl (Nat.le_of_ble_eq_true rfl) dX0_next_2 ⟨(Nat.le_of_ble_eq_true rfl), (Nat.le_of_ble_eq_true rfl)⟩ hnt hlocks ⟨(Nat.le_of_ble_eq_true rfl), (Nat.le_of_ble_eq_true rfl)⟩ (fun E h => Or.inl ⟨by simp [raW, h.1, h.2], rfl⟩) (fun S1 H locs hp hC1 => ?_)
  obtain ⟨e1, hp⟩ := hp
  rw [e1] at hC1; replace hC := hC1
  have h1 := hp
  rw [hrel] at hp
  obtain ⟨r, hrR, rfl⟩ := inI_t (by omega) hp
  have er : ixN (nI r) = r := ixN_nI (by omega)
  have hr12 : r < 12 := by omega
  refine lv_aload_n S.1 S.2.1 dX0_next_5 rfl (lv_at hl 0 rfl) ?_
  refine lv_iload_n S.1 S.2.1 dX0_next_6 rfl (lv_at hl 2 rfl) ?_
  refine o_ycallv oiX S hC (c_X0_needThing l hs0 hn a) cw_RX0_X0_needThing ⟨rfl, rfl, by decide, by decide⟩ rfl hl.1 rfl (Nat.le_of_ble_eq_true rfl) dX0_next_7 ⟨(Nat.le_of_ble_eq_true rfl), (Nat.le_of_ble_eq_true rfl)⟩ hnt hlocks ⟨(Nat.le_of_ble_eq_true rfl), (Nat.le_of_ble_eq_true rfl)⟩ (fun E h => Or.inl ⟨by simp [raW, h1, h.1, h.2], rfl⟩) (fun S1 H locs hp hC1 => ?_)
  obtain ⟨e1, hp⟩ := hp
  rw [e1] at hC1; replace hC := hC1
  have h2 := hp
  obtain ⟨a, ha, rfl⟩ := inI_t (by omega) h2
  have ea : ixN (nI a) = a := ixN_nI (by omega)
  refine lv_aload_n S.1 S.2.1 dX0_next_10 rfl (lv_at hl 0 rfl) ?_
  refine lv_iload_n S.1 S.2.1 dX0_next_11 rfl (lv_at hl 1 rfl) ?_
  refine o_callv oiX S hC (c_X0_settle l hn hr12 ht12 ht (fun q hq => hw q (by omega))) cw_RX0_X0_settle ⟨rfl, rfl, by decide, by decide⟩ rfl hl.1 rfl (Nat.le_of_ble_eq_true rfl) dX0_next_12 ⟨(Nat.le_of_ble_eq_true rfl), (Nat.le_of_ble_eq_true rfl)⟩ (fun S1 H locs hp hC1 => ?_)
  have e1 := hp
  rw [e1] at hC1; replace hC := hC1
  replace hC : CX loc n g (stlF S0 n t r) s H locs := hC
  refine lv_aload_n S.1 S.2.1 dX0_next_15 rfl (lv_at hl 0 rfl) ?_
  refine lv_aload_n S.1 S.2.1 dX0_next_16 rfl (lv_at hl 0 rfl) ?_
  refine x_get_rows S hC dX0_next_17 ?_
  refine lv_iload_n S.1 S.2.1 dX0_next_20 rfl (lv_at hl 1 rfl) ?_
  refine x_aald S hC hr12 dX0_next_21 ?_
  refine lv_iload_n S.1 S.2.1 dX0_next_22 rfl (lv_at hl 2 rfl) ?_
  refine x_lld S hC hn hr12 ha dX0_next_23 ?_
  refine lv_iload_n S.1 S.2.1 dX0_next_24 rfl (lv_at hl 3 rfl) ?_
  refine o_ycalli oiX S hC (c_X0_pick l hs0 hn _ i) cw_RX0_X0_pick ⟨rfl, rfl, by decide, by decide⟩ rfl hl.1 rfl (Nat.le_of_ble_eq_true rfl) dX0_next_25 ⟨(Nat.le_of_ble_eq_true rfl), (Nat.le_of_ble_eq_true rfl)⟩ hnt hlocks ⟨(Nat.le_of_ble_eq_true rfl), (Nat.le_of_ble_eq_true rfl)⟩ (fun E h => Or.inr ⟨by simp [raW, h1, h2], h.1, by rw [er], by rw [er, ea]; exact h.2⟩) (fun r25 S1 H locs hp hC1 => ?_)
  obtain ⟨e1, hp⟩ := hp
  rw [e1] at hC1; replace hC := hC1
  obtain ⟨h4, rfl⟩ := hp
  exact vx_ret (o_iret S hr hlocks hC ⟨by rw [er], by simp [raW, h1, h2], by rw [er, ea]; exact h4, by rw [er, ea]⟩ rfl dX0_next_28 (Nat.le_of_ble_eq_true rfl) (Nat.le_of_ble_eq_true rfl))
set_option maxRecDepth 100000 in
set_option maxHeartbeats 4000000 in
theorem c_X0_back (l : Launch) (hs0 : l.stackTraces = false) {loc : Nat → Nat} {n : Nat} {g : Gc} (hn : n ≤ 40) {S0 : RS} {R : Nat} (hR : R ≤ 12) (hrel : S0.1 0 = nI R) {t : Nat} (ht12 : t ≤ 12) (ht : S0.1 1 = nI t) (hw : ∀ q, q < R → byC S0 q = true → wfR S0 q) (x a i : Int32) : GXi l yX0_back cX0_back 4 (some .int) (rmL 9 8 48) loc n g S0 [.int x, .int a, .int i] (fun v S' => S' = stlF S0 n t (ixN x) ∧ raW S0 n x a = none ∧ pickW (colF S' (ixN x) (ixN a) n) i = true ∧ v = ntzL (lowF (colF S' (ixN x) (ixN a) n) (ixN i))) (fun E u => (raW S0 n x a = some E ∧ u = S0) ∨ (raW S0 n x a = none ∧ E = nseS ∧ u = stlF S0 n t (ixN x) ∧ pickW (colF u (ixN x) (ixN a) n) i = false)) := by
  refine o_enterx (by decide) (Nat.le_of_ble_eq_true rfl) ?_
  intro p e s m below meth c ls S hr hlocks hnt hC hl
  refine lv_aload_n S.1 S.2.1 dX0_back_0 rfl (lv_at hl 0 rfl) ?_
  refine lv_iload_n S.1 S.2.1 dX0_back_1 rfl (lv_at hl 1 rfl) ?_
  refine o_ycallv oiX S hC (c_X0_needRelation l hs0 hn x) cw_RX0_X0_needRelation ⟨rfl, rfl, by decide, by decide⟩ rfl hl.1 rfl (Nat.le_of_ble_eq_true rfl) dX0_back_2 ⟨(Nat.le_of_ble_eq_true rfl), (Nat.le_of_ble_eq_true rfl)⟩ hnt hlocks ⟨(Nat.le_of_ble_eq_true rfl), (Nat.le_of_ble_eq_true rfl)⟩ (fun E h => Or.inl ⟨by simp [raW, h.1, h.2], rfl⟩) (fun S1 H locs hp hC1 => ?_)
  obtain ⟨e1, hp⟩ := hp
  rw [e1] at hC1; replace hC := hC1
  have h1 := hp
  rw [hrel] at hp
  obtain ⟨r, hrR, rfl⟩ := inI_t (by omega) hp
  have er : ixN (nI r) = r := ixN_nI (by omega)
  have hr12 : r < 12 := by omega
  refine lv_aload_n S.1 S.2.1 dX0_back_5 rfl (lv_at hl 0 rfl) ?_
  refine lv_iload_n S.1 S.2.1 dX0_back_6 rfl (lv_at hl 2 rfl) ?_
  refine o_ycallv oiX S hC (c_X0_needThing l hs0 hn a) cw_RX0_X0_needThing ⟨rfl, rfl, by decide, by decide⟩ rfl hl.1 rfl (Nat.le_of_ble_eq_true rfl) dX0_back_7 ⟨(Nat.le_of_ble_eq_true rfl), (Nat.le_of_ble_eq_true rfl)⟩ hnt hlocks ⟨(Nat.le_of_ble_eq_true rfl), (Nat.le_of_ble_eq_true rfl)⟩ (fun E h => Or.inl ⟨by simp [raW, h1, h.1, h.2], rfl⟩) (fun S1 H locs hp hC1 => ?_)
  obtain ⟨e1, hp⟩ := hp
  rw [e1] at hC1; replace hC := hC1
  have h2 := hp
  obtain ⟨a, ha, rfl⟩ := inI_t (by omega) h2
  have ea : ixN (nI a) = a := ixN_nI (by omega)
  refine lv_aload_n S.1 S.2.1 dX0_back_10 rfl (lv_at hl 0 rfl) ?_
  refine lv_iload_n S.1 S.2.1 dX0_back_11 rfl (lv_at hl 1 rfl) ?_
  refine o_callv oiX S hC (c_X0_settle l hn hr12 ht12 ht (fun q hq => hw q (by omega))) cw_RX0_X0_settle ⟨rfl, rfl, by decide, by decide⟩ rfl hl.1 rfl (Nat.le_of_ble_eq_true rfl) dX0_back_12 ⟨(Nat.le_of_ble_eq_true rfl), (Nat.le_of_ble_eq_true rfl)⟩ (fun S1 H locs hp hC1 => ?_)
  have e1 := hp
  rw [e1] at hC1; replace hC := hC1
  replace hC : CX loc n g (stlF S0 n t r) s H locs := hC
  refine lv_aload_n S.1 S.2.1 dX0_back_15 rfl (lv_at hl 0 rfl) ?_
  refine lv_aload_n S.1 S.2.1 dX0_back_16 rfl (lv_at hl 0 rfl) ?_
  refine lv_iload_n S.1 S.2.1 dX0_back_17 rfl (lv_at hl 1 rfl) ?_
  refine lv_iload_n S.1 S.2.1 dX0_back_18 rfl (lv_at hl 2 rfl) ?_
  refine o_calll oiX S hC (c_X0_column l hn hr12 ha) cw_RX0_X0_column ⟨rfl, rfl, by decide, by decide⟩ rfl hl.1 rfl (Nat.le_of_ble_eq_true rfl) dX0_back_19 ⟨(Nat.le_of_ble_eq_true rfl), (Nat.le_of_ble_eq_true rfl)⟩ (fun r19 S1 H locs hp hC1 => ?_)
  obtain ⟨e1, hp⟩ := hp
  rw [e1] at hC1; replace hC := hC1
  subst hp
  refine lv_iload_n S.1 S.2.1 dX0_back_22 rfl (lv_at hl 3 rfl) ?_
  refine o_ycalli oiX S hC (c_X0_pick l hs0 hn _ i) cw_RX0_X0_pick ⟨rfl, rfl, by decide, by decide⟩ rfl hl.1 rfl (Nat.le_of_ble_eq_true rfl) dX0_back_23 ⟨(Nat.le_of_ble_eq_true rfl), (Nat.le_of_ble_eq_true rfl)⟩ hnt hlocks ⟨(Nat.le_of_ble_eq_true rfl), (Nat.le_of_ble_eq_true rfl)⟩ (fun E h => Or.inr ⟨by simp [raW, h1, h2], h.1, by rw [er], by rw [er, ea]; exact h.2⟩) (fun r23 S1 H locs hp hC1 => ?_)
  obtain ⟨e1, hp⟩ := hp
  rw [e1] at hC1; replace hC := hC1
  obtain ⟨h4, rfl⟩ := hp
  exact vx_ret (o_iret S hr hlocks hC ⟨by rw [er], by simp [raW, h1, h2], by rw [er, ea]; exact h4, by rw [er, ea]⟩ rfl dX0_back_26 (Nat.le_of_ble_eq_true rfl) (Nat.le_of_ble_eq_true rfl))
theorem nearG_lt {S : RS} {r a n : Nat} (ha : a < n) : ∀ k c, c + k ≤ n → nearG S r a k c < n
  | 0, _, _ => ha
  | k + 1, c, h => by
    unfold nearG
    split
    · omega
    · exact nearG_lt ha k (c + 1) (by omega)
def routF (S : RS) (r n a : Nat) : Nat → Nat
  | 0 => a
  | k + 1 => nearG S r (routF S r n a k) n 0
theorem routF_lt {S : RS} {r n a : Nat} (ha : a < n) : ∀ k, routF S r n a k < n
  | 0 => ha
  | k + 1 => nearG_lt (routF_lt ha k) n 0 (by omega)
def rouB (S : RS) (a : Nat) (i : Int32) : Bool := decide (¬ i < 0) && decide (i ≤ S.2.1 7 a)
set_option maxRecDepth 100000 in
set_option maxHeartbeats 4000000 in
theorem c_X0_route (l : Launch) (hs0 : l.stackTraces = false) {loc : Nat → Nat} {n : Nat} {g : Gc} (hn : n ≤ 40) {S0 : RS} {R : Nat} (hR : R ≤ 12) (hrel : S0.1 0 = nI R) {t : Nat} (ht12 : t ≤ 12) (ht : S0.1 1 = nI t) (hw : ∀ q, q < R → byC S0 q = true → wfR S0 q) (x a b i : Int32) : GXi l yX0_route cX0_route 7 (some .int) (rmL 9 8 48) loc n g S0 [.int x, .int a, .int b, .int i] (fun v S' => S' = measF (stlF S0 n t (ixN x)) n (ixN x) (ixN b) ∧ rabW S0 n x a b = none ∧ rouB S' (ixN a) i = true ∧ v = nI (routF S' (ixN x) n (ixN a) (ixN i))) (fun E u => (rabW S0 n x a b = some E ∧ u = S0) ∨ (rabW S0 n x a b = none ∧ E = nseS ∧ u = measF (stlF S0 n t (ixN x)) n (ixN x) (ixN b) ∧ rouB u (ixN a) i = false)) := by
  refine o_enterx (by decide) (Nat.le_of_ble_eq_true rfl) ?_
  intro p e s m below meth c ls S hr hlocks hnt hC hl
  refine lv_aload_n S.1 S.2.1 dX0_route_0 rfl (lv_at hl 0 rfl) ?_
  refine lv_iload_n S.1 S.2.1 dX0_route_1 rfl (lv_at hl 1 rfl) ?_
  refine o_ycallv oiX S hC (c_X0_needRelation l hs0 hn x) cw_RX0_X0_needRelation ⟨rfl, rfl, by decide, by decide⟩ rfl hl.1 rfl (Nat.le_of_ble_eq_true rfl) dX0_route_2 ⟨(Nat.le_of_ble_eq_true rfl), (Nat.le_of_ble_eq_true rfl)⟩ hnt hlocks ⟨(Nat.le_of_ble_eq_true rfl), (Nat.le_of_ble_eq_true rfl)⟩ (fun E h => Or.inl ⟨by simp [rabW, h.1, h.2], rfl⟩) (fun S1 H locs hp hC1 => ?_)
  obtain ⟨e1, hp⟩ := hp
  rw [e1] at hC1; replace hC := hC1
  have h1 := hp
  rw [hrel] at hp
  obtain ⟨r, hrR, e0x⟩ := inI_t (by omega) hp
  have er : ixN x = r := by rw [e0x]; exact ixN_nI (by omega)
  have hr12 : r < 12 := by omega
  rw [e0x] at hl
  refine lv_aload_n S.1 S.2.1 dX0_route_5 rfl (lv_at hl 0 rfl) ?_
  refine lv_iload_n S.1 S.2.1 dX0_route_6 rfl (lv_at hl 2 rfl) ?_
  refine o_ycallv oiX S hC (c_X0_needThing l hs0 hn a) cw_RX0_X0_needThing ⟨rfl, rfl, by decide, by decide⟩ rfl hl.1 rfl (Nat.le_of_ble_eq_true rfl) dX0_route_7 ⟨(Nat.le_of_ble_eq_true rfl), (Nat.le_of_ble_eq_true rfl)⟩ hnt hlocks ⟨(Nat.le_of_ble_eq_true rfl), (Nat.le_of_ble_eq_true rfl)⟩ (fun E h => Or.inl ⟨by simp [rabW, h1, h.1, h.2], rfl⟩) (fun S1 H locs hp hC1 => ?_)
  obtain ⟨e1, hp⟩ := hp
  rw [e1] at hC1; replace hC := hC1
  have h2 := hp
  obtain ⟨a', ha, e0a⟩ := inI_t (by omega) h2
  have ea : ixN a = a' := by rw [e0a]; exact ixN_nI (by omega)
  rw [e0a] at hl
  refine lv_aload_n S.1 S.2.1 dX0_route_10 rfl (lv_at hl 0 rfl) ?_
  refine lv_iload_n S.1 S.2.1 dX0_route_11 rfl (lv_at hl 3 rfl) ?_
  refine o_ycallv oiX S hC (c_X0_needThing l hs0 hn b) cw_RX0_X0_needThing ⟨rfl, rfl, by decide, by decide⟩ rfl hl.1 rfl (Nat.le_of_ble_eq_true rfl) dX0_route_12 ⟨(Nat.le_of_ble_eq_true rfl), (Nat.le_of_ble_eq_true rfl)⟩ hnt hlocks ⟨(Nat.le_of_ble_eq_true rfl), (Nat.le_of_ble_eq_true rfl)⟩ (fun E h => Or.inl ⟨by simp [rabW, h1, h2, h.1, h.2], rfl⟩) (fun S1 H locs hp hC1 => ?_)
  obtain ⟨e1, hp⟩ := hp
  rw [e1] at hC1; replace hC := hC1
  have h3 := hp
  obtain ⟨b', hb, e0b⟩ := inI_t (by omega) h3
  have eb : ixN b = b' := by rw [e0b]; exact ixN_nI (by omega)
  rw [e0b] at hl
  have h4 : rabW S0 n x a b = none := by simp [rabW, h1, h2, h3]
  refine lv_aload_n S.1 S.2.1 dX0_route_15 rfl (lv_at hl 0 rfl) ?_
  refine lv_iload_n S.1 S.2.1 dX0_route_16 rfl (lv_at hl 1 rfl) ?_
  refine o_callv oiX S hC (c_X0_settle l hn hr12 ht12 ht (fun q hq => hw q (by omega))) cw_RX0_X0_settle ⟨rfl, rfl, by decide, by decide⟩ rfl hl.1 rfl (Nat.le_of_ble_eq_true rfl) dX0_route_17 ⟨(Nat.le_of_ble_eq_true rfl), (Nat.le_of_ble_eq_true rfl)⟩ (fun S1 H locs hp hC1 => ?_)
  have e1 := hp
  rw [e1] at hC1; replace hC := hC1
  replace hC : CX loc n g (stlF S0 n t r) s H locs := hC
  refine lv_aload_n S.1 S.2.1 dX0_route_20 rfl (lv_at hl 0 rfl) ?_
  refine lv_iload_n S.1 S.2.1 dX0_route_21 rfl (lv_at hl 1 rfl) ?_
  refine lv_iload_n S.1 S.2.1 dX0_route_22 rfl (lv_at hl 3 rfl) ?_
  refine o_callv oiX S hC (c_X0_measureSteps l hn hr12 hb) cw_RX0_X0_measureSteps ⟨rfl, rfl, by decide, by decide⟩ rfl hl.1 rfl (Nat.le_of_ble_eq_true rfl) dX0_route_23 ⟨(Nat.le_of_ble_eq_true rfl), (Nat.le_of_ble_eq_true rfl)⟩ (fun S1 H locs hp hC1 => ?_)
  have e1 := hp
  rw [e1] at hC1; replace hC := hC1
  refine lv_iload S.1 S.2.1 dX0_route_26 (lv_at hl 4 rfl) ?_
  refine lv_if_lt (tgt := 42) S.1 S.2.1 dX0_route_28 (by decide) (fun c28 => ?_) (fun c28 => ?_)
  · skip
    exact x_throw_nseG (tx := "the route has no such thing") hs0 S hC (by decide) hnt hlocks hl.1 (Or.inr ⟨h4, rfl, by rw [er, eb], by rw [ea]; simp [rouB, c28]⟩) dX0_route_42 dX0_route_45 dX0_route_46 dX0_route_48 dX0_route_51 ⟨(Nat.le_of_ble_eq_true rfl), (Nat.le_of_ble_eq_true rfl), (Nat.le_of_ble_eq_true rfl), (Nat.le_of_ble_eq_true rfl)⟩ ⟨(Nat.le_of_ble_eq_true rfl), (Nat.le_of_ble_eq_true rfl)⟩
  · skip
    refine lv_iload S.1 S.2.1 dX0_route_31 (lv_at hl 4 rfl) ?_
    refine lv_aload_n S.1 S.2.1 dX0_route_33 rfl (lv_at hl 0 rfl) ?_
    refine x_get_steps S hC dX0_route_34 ?_
    refine lv_iload_n S.1 S.2.1 dX0_route_37 rfl (lv_at hl 2 rfl) ?_
    refine x_ild S hC hn 7 (by decide) ha dX0_route_38 ?_
    refine lv_icmp_le (tgt := 52) S.1 S.2.1 dX0_route_39 (by decide) (fun c39 => ?_) (fun c39 => ?_)
    · have hok : rouB (measF (stlF S0 n t r) n r b') a' i = true := by simp [rouB, c28, c39]
      obtain ⟨q, hq31, e0i⟩ := nI_of c28
      have ei : ixN i = q := by rw [e0i]; exact ixN_nI hq31
      rw [e0i] at hl
      refine W.widen (k := 8) (n := 48) (Nat.le_of_ble_eq_true rfl) (Nat.le_of_ble_eq_true rfl) ?_
      refine lv_iload_n S.1 S.2.1 dX0_route_52 rfl (lv_at hl 2 rfl) ?_
      refine lv_istore S.1 S.2.1 dX0_route_53 hl (by decide) rfl (fun ls hl => ?_)
      refine lv_iconst (v := nI 0) S.1 S.2.1 dX0_route_55 rfl ?_
      refine lv_istore S.1 S.2.1 dX0_route_56 hl (by decide) rfl (fun ls hl => ?_)
      have loop : ∀ (k j : Nat), q - j < k → j ≤ q → ∀ (H : Heap) (locs : List Loc) (ls : Array Slot), CX loc n g (measF (stlF S0 n t r) n r b') s H locs → lv_has ls 7 [(0, .ref (loc 0)), (1, .int (nI r)), (4, .int (nI q)), (5, (.int (nI (routF (measF (stlF S0 n t r) n r b') r n a' j)))), (6, .int (nI j))] → W p l e (rmL 9 8 48) s m ([.ref (loc 0), .int x, .int a, .int b, .int i] : List Value).toArray below meth c H locs 8 48 (vx_MQ below (va_Qi (fun v S' => S' = measF (stlF S0 n t (ixN x)) n (ixN x) (ixN b) ∧ rabW S0 n x a b = none ∧ rouB S' (ixN a) i = true ∧ v = nI (routF S' (ixN x) n (ixN a) (ixN i))) (fun S' t => HX loc n g S' t.heap) (ZA loc 21)) (Xg (HX loc n g) (ZA loc 21) (fun E u => (rabW S0 n x a b = some E ∧ u = S0) ∨ (rabW S0 n x a b = none ∧ E = nseS ∧ u = measF (stlF S0 n t (ixN x)) n (ixN x) (ixN b) ∧ rouB u (ixN a) i = false))) ([.ref (loc 0), .int x, .int a, .int b, .int i] : List Value).toArray s (rmL 9 8 48).cells (rmL 9 8 48).slots (ZA loc 21)) (F0 m 58 ls []) := by
        intro k
        induction k with
        | zero => intro j hk; omega
        | succ k ih =>
          intro j hk hi  H locs ls hC hl
          refine lv_iload S.1 S.2.1 dX0_route_58 (lv_at hl 4 rfl) ?_
          refine lv_iload S.1 S.2.1 dX0_route_60 (lv_at hl 2 rfl) ?_
          refine n_icmp_ge (tgt := 80) S.1 S.2.1 dX0_route_62 (by decide) (by omega) (by omega) (fun c62 => ?_) (fun c62 => ?_)
          · skip
            refine lv_iload S.1 S.2.1 dX0_route_80 (lv_at hl 3 rfl) ?_
            exact vx_ret (o_iret S hr hlocks hC ⟨by rw [er, eb], h4, by rw [ea]; exact hok, by rw [er, ea, ei, show q = j by omega]⟩ rfl dX0_route_82 (Nat.le_of_ble_eq_true rfl) (Nat.le_of_ble_eq_true rfl))
          · skip
            refine lv_aload_n S.1 S.2.1 dX0_route_65 rfl (lv_at hl 0 rfl) ?_
            refine lv_iload_n S.1 S.2.1 dX0_route_66 rfl (lv_at hl 1 rfl) ?_
            refine lv_iload S.1 S.2.1 dX0_route_67 (lv_at hl 3 rfl) ?_
            refine o_calli oiX S hC (c_X0_stepNearer l hn hr12 (routF_lt ha j)) cw_RX0_X0_stepNearer ⟨rfl, rfl, by decide, by decide⟩ rfl hl.1 rfl (Nat.le_of_ble_eq_true rfl) dX0_route_69 ⟨(Nat.le_of_ble_eq_true rfl), (Nat.le_of_ble_eq_true rfl)⟩ (fun r69 S1 H locs hp hC1 => ?_)
            obtain ⟨e1, hp⟩ := hp
            rw [e1] at hC1; replace hC := hC1
            subst hp
            refine lv_istore S.1 S.2.1 dX0_route_72 hl (by decide) rfl (fun ls hl => ?_)
            refine lv_iinc (k := 4) S.1 S.2.1 dX0_route_74 hl rfl (n_inc _) (by decide) rfl (fun ls hl => ?_)
            refine lv_goto (tgt := 58) S.1 S.2.1 dX0_route_77 (by decide) ?_
            exact ih (j + 1) (by omega) (by omega) _ _ _ hC (lv_sub hl [2, 3, 4, 1, 0] rfl)
      exact loop (q + 1) 0 (by omega) (by omega) _ _ _ hC (lv_sub hl [2, 3, 6, 1, 0] rfl)
    · skip
      exact x_throw_nseG (tx := "the route has no such thing") hs0 S hC (by decide) hnt hlocks hl.1 (Or.inr ⟨h4, rfl, by rw [er, eb], by rw [ea]; simp [rouB, c39]⟩) dX0_route_42 dX0_route_45 dX0_route_46 dX0_route_48 dX0_route_51 ⟨(Nat.le_of_ble_eq_true rfl), (Nat.le_of_ble_eq_true rfl), (Nat.le_of_ble_eq_true rfl), (Nat.le_of_ble_eq_true rfl)⟩ ⟨(Nat.le_of_ble_eq_true rfl), (Nat.le_of_ble_eq_true rfl)⟩
end
