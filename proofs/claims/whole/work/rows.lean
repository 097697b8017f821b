section
-- ===== PART A: goes FIRST, ahead of the names: the tables' words, and 'selects' of the private methods out of them =====
/-- a private method of a class that the tables say can be made, by its rows of tables_1 -/
def lw_okq (q : MethodName × Nat) : Prop := (q.1.cls ≠ "java/lang/invoke/MethodHandle" ∧ q.1.cls ≠ "java/lang/invoke/VarHandle") ∧ Cond.instantiable q.1.cls q.2 ∈ tables_1 ∧ Cond.privateMethod q.1 ∈ tables_1 ∧ Cond.instanceMethod q.1 ∈ tables_1
theorem lw_p0 : lw_okq (⟨"TrackRoutes$Grid", "numberPlaces", "()V"⟩, 13) := ⟨⟨by decide +kernel, by decide +kernel⟩, List.mem_of_getElem? (i := 39) (by decide +kernel), List.mem_of_getElem? (i := 48) (by decide +kernel), List.mem_of_getElem? (i := 49) (by decide +kernel)⟩
theorem lw_p1 : lw_okq (⟨"TrackRoutes", "needLayer", "(I)V"⟩, 4) := ⟨⟨by decide +kernel, by decide +kernel⟩, List.mem_of_getElem? (i := 18) (by decide +kernel), List.mem_of_getElem? (i := 278) (by decide +kernel), List.mem_of_getElem? (i := 279) (by decide +kernel)⟩
theorem lw_p2 : lw_okq (⟨"java/lang/Throwable", "fillInStackTrace", "(I)Ljava/lang/Throwable;"⟩, 6) := ⟨⟨by decide +kernel, by decide +kernel⟩, List.mem_of_getElem? (i := 320) (by decide +kernel), List.mem_of_getElem? (i := 318) (by decide +kernel), List.mem_of_getElem? (i := 319) (by decide +kernel)⟩
theorem lw_p3 : lw_okq (⟨"TrackRoutes", "rulesOf", "(I)[I"⟩, 4) := ⟨⟨by decide +kernel, by decide +kernel⟩, List.mem_of_getElem? (i := 18) (by decide +kernel), List.mem_of_getElem? (i := 350) (by decide +kernel), List.mem_of_getElem? (i := 351) (by decide +kernel)⟩
theorem lw_p4 : lw_okq (⟨"TrackRoutes", "needNet", "(I)V"⟩, 4) := ⟨⟨by decide +kernel, by decide +kernel⟩, List.mem_of_getElem? (i := 18) (by decide +kernel), List.mem_of_getElem? (i := 408) (by decide +kernel), List.mem_of_getElem? (i := 409) (by decide +kernel)⟩
theorem lw_p5 : lw_okq (⟨"TrackRoutes", "needPin", "(I)V"⟩, 4) := ⟨⟨by decide +kernel, by decide +kernel⟩, List.mem_of_getElem? (i := 18) (by decide +kernel), List.mem_of_getElem? (i := 425) (by decide +kernel), List.mem_of_getElem? (i := 426) (by decide +kernel)⟩
theorem lw_p6 : lw_okq (⟨"TrackRoutes", "needPlace", "(IJJ)V"⟩, 4) := ⟨⟨by decide +kernel, by decide +kernel⟩, List.mem_of_getElem? (i := 18) (by decide +kernel), List.mem_of_getElem? (i := 430) (by decide +kernel), List.mem_of_getElem? (i := 431) (by decide +kernel)⟩
theorem lw_p7 : lw_okq (⟨"TrackRoutes$Router", "choosePlaces", "()V"⟩, 16) := ⟨⟨by decide +kernel, by decide +kernel⟩, List.mem_of_getElem? (i := 151) (by decide +kernel), List.mem_of_getElem? (i := 492) (by decide +kernel), List.mem_of_getElem? (i := 493) (by decide +kernel)⟩
theorem lw_p8 : lw_okq (⟨"TrackRoutes$Router", "firstFit", "(II)I"⟩, 16) := ⟨⟨by decide +kernel, by decide +kernel⟩, List.mem_of_getElem? (i := 151) (by decide +kernel), List.mem_of_getElem? (i := 496) (by decide +kernel), List.mem_of_getElem? (i := 497) (by decide +kernel)⟩
theorem lw_p9 : lw_okq (⟨"TrackRoutes$Stand", "mark", "([IIII)V"⟩, 4) := ⟨⟨by decide +kernel, by decide +kernel⟩, List.mem_of_getElem? (i := 157) (by decide +kernel), List.mem_of_getElem? (i := 509) (by decide +kernel), List.mem_of_getElem? (i := 510) (by decide +kernel)⟩
theorem lw_p10 : lw_okq (⟨"TrackRoutes$Router", "someWait", "()Z"⟩, 16) := ⟨⟨by decide +kernel, by decide +kernel⟩, List.mem_of_getElem? (i := 151) (by decide +kernel), List.mem_of_getElem? (i := 521) (by decide +kernel), List.mem_of_getElem? (i := 522) (by decide +kernel)⟩
theorem lw_p11 : lw_okq (⟨"TrackRoutes$Router", "waits", "(I)Z"⟩, 16) := ⟨⟨by decide +kernel, by decide +kernel⟩, List.mem_of_getElem? (i := 151) (by decide +kernel), List.mem_of_getElem? (i := 531) (by decide +kernel), List.mem_of_getElem? (i := 532) (by decide +kernel)⟩
theorem lw_p12 : lw_okq (⟨"TrackRoutes$Router", "route", "(I)V"⟩, 16) := ⟨⟨by decide +kernel, by decide +kernel⟩, List.mem_of_getElem? (i := 151) (by decide +kernel), List.mem_of_getElem? (i := 535) (by decide +kernel), List.mem_of_getElem? (i := 536) (by decide +kernel)⟩
theorem lw_p13 : lw_okq (⟨"TrackRoutes$Router", "placeOutside", "(I)I"⟩, 16) := ⟨⟨by decide +kernel, by decide +kernel⟩, List.mem_of_getElem? (i := 151) (by decide +kernel), List.mem_of_getElem? (i := 539) (by decide +kernel), List.mem_of_getElem? (i := 540) (by decide +kernel)⟩
theorem lw_p14 : lw_okq (⟨"TrackRoutes$Router", "findEnd", "(IZ)I"⟩, 16) := ⟨⟨by decide +kernel, by decide +kernel⟩, List.mem_of_getElem? (i := 151) (by decide +kernel), List.mem_of_getElem? (i := 543) (by decide +kernel), List.mem_of_getElem? (i := 544) (by decide +kernel)⟩
theorem lw_p15 : lw_okq (⟨"TrackRoutes$Front", "isBefore", "(II)Z"⟩, 4) := ⟨⟨by decide +kernel, by decide +kernel⟩, List.mem_of_getElem? (i := 177) (by decide +kernel), List.mem_of_getElem? (i := 557) (by decide +kernel), List.mem_of_getElem? (i := 558) (by decide +kernel)⟩
def lw_privs_1 : List (MethodName × Nat) := [(⟨"TrackRoutes$Grid", "numberPlaces", "()V"⟩, 13), (⟨"TrackRoutes", "needLayer", "(I)V"⟩, 4), (⟨"java/lang/Throwable", "fillInStackTrace", "(I)Ljava/lang/Throwable;"⟩, 6), (⟨"TrackRoutes", "rulesOf", "(I)[I"⟩, 4), (⟨"TrackRoutes", "needNet", "(I)V"⟩, 4), (⟨"TrackRoutes", "needPin", "(I)V"⟩, 4), (⟨"TrackRoutes", "needPlace", "(IJJ)V"⟩, 4), (⟨"TrackRoutes$Router", "choosePlaces", "()V"⟩, 16), (⟨"TrackRoutes$Router", "firstFit", "(II)I"⟩, 16), (⟨"TrackRoutes$Stand", "mark", "([IIII)V"⟩, 4), (⟨"TrackRoutes$Router", "someWait", "()Z"⟩, 16), (⟨"TrackRoutes$Router", "waits", "(I)Z"⟩, 16), (⟨"TrackRoutes$Router", "route", "(I)V"⟩, 16), (⟨"TrackRoutes$Router", "placeOutside", "(I)I"⟩, 16), (⟨"TrackRoutes$Router", "findEnd", "(IZ)I"⟩, 16), (⟨"TrackRoutes$Front", "isBefore", "(II)Z"⟩, 4)]
theorem lw_r1 : ∀ q ∈ lw_privs_1, lw_okq q := List.forall_mem_cons.mpr ⟨lw_p0, List.forall_mem_cons.mpr ⟨lw_p1, List.forall_mem_cons.mpr ⟨lw_p2, List.forall_mem_cons.mpr ⟨lw_p3, List.forall_mem_cons.mpr ⟨lw_p4, List.forall_mem_cons.mpr ⟨lw_p5, List.forall_mem_cons.mpr ⟨lw_p6, List.forall_mem_cons.mpr ⟨lw_p7, List.forall_mem_cons.mpr ⟨lw_p8, List.forall_mem_cons.mpr ⟨lw_p9, List.forall_mem_cons.mpr ⟨lw_p10, List.forall_mem_cons.mpr ⟨lw_p11, List.forall_mem_cons.mpr ⟨lw_p12, List.forall_mem_cons.mpr ⟨lw_p13, List.forall_mem_cons.mpr ⟨lw_p14, List.forall_mem_cons.mpr ⟨lw_p15, fun _ h => absurd h List.not_mem_nil⟩⟩⟩⟩⟩⟩⟩⟩⟩⟩⟩⟩⟩⟩⟩⟩
theorem lw_p16 : lw_okq (⟨"TrackRoutes$Front", "put", "(II)V"⟩, 4) := ⟨⟨by decide +kernel, by decide +kernel⟩, List.mem_of_getElem? (i := 177) (by decide +kernel), List.mem_of_getElem? (i := 561) (by decide +kernel), List.mem_of_getElem? (i := 562) (by decide +kernel)⟩
theorem lw_p17 : lw_okq (⟨"TrackRoutes$Front", "sink", "(I)V"⟩, 4) := ⟨⟨by decide +kernel, by decide +kernel⟩, List.mem_of_getElem? (i := 177) (by decide +kernel), List.mem_of_getElem? (i := 569) (by decide +kernel), List.mem_of_getElem? (i := 570) (by decide +kernel)⟩
theorem lw_p18 : lw_okq (⟨"TrackRoutes$Router", "isGoal", "(II)Z"⟩, 16) := ⟨⟨by decide +kernel, by decide +kernel⟩, List.mem_of_getElem? (i := 151) (by decide +kernel), List.mem_of_getElem? (i := 573) (by decide +kernel), List.mem_of_getElem? (i := 574) (by decide +kernel)⟩
theorem lw_p19 : lw_okq (⟨"TrackRoutes$Router", "offerAround", "(IIZ)V"⟩, 16) := ⟨⟨by decide +kernel, by decide +kernel⟩, List.mem_of_getElem? (i := 151) (by decide +kernel), List.mem_of_getElem? (i := 577) (by decide +kernel), List.mem_of_getElem? (i := 578) (by decide +kernel)⟩
theorem lw_p20 : lw_okq (⟨"TrackRoutes$Router", "entryCost", "(IIZ)I"⟩, 16) := ⟨⟨by decide +kernel, by decide +kernel⟩, List.mem_of_getElem? (i := 151) (by decide +kernel), List.mem_of_getElem? (i := 585) (by decide +kernel), List.mem_of_getElem? (i := 586) (by decide +kernel)⟩
theorem lw_p21 : lw_okq (⟨"TrackRoutes$Router", "dropRoute", "(I)V"⟩, 16) := ⟨⟨by decide +kernel, by decide +kernel⟩, List.mem_of_getElem? (i := 151) (by decide +kernel), List.mem_of_getElem? (i := 594) (by decide +kernel), List.mem_of_getElem? (i := 595) (by decide +kernel)⟩
theorem lw_p22 : lw_okq (⟨"TrackRoutes$Router", "traceBack", "(IIZ)V"⟩, 16) := ⟨⟨by decide +kernel, by decide +kernel⟩, List.mem_of_getElem? (i := 151) (by decide +kernel), List.mem_of_getElem? (i := 602) (by decide +kernel), List.mem_of_getElem? (i := 603) (by decide +kernel)⟩
theorem lw_p23 : lw_okq (⟨"TrackRoutes$Router", "placeBefore", "(IIZ)I"⟩, 16) := ⟨⟨by decide +kernel, by decide +kernel⟩, List.mem_of_getElem? (i := 151) (by decide +kernel), List.mem_of_getElem? (i := 606) (by decide +kernel), List.mem_of_getElem? (i := 607) (by decide +kernel)⟩
theorem lw_p24 : lw_okq (⟨"TrackRoutes$Router", "tearUp", "(I)V"⟩, 16) := ⟨⟨by decide +kernel, by decide +kernel⟩, List.mem_of_getElem? (i := 151) (by decide +kernel), List.mem_of_getElem? (i := 610) (by decide +kernel), List.mem_of_getElem? (i := 611) (by decide +kernel)⟩
theorem lw_p25 : lw_okq (⟨"TrackRoutes$Router", "layWay", "(I)V"⟩, 16) := ⟨⟨by decide +kernel, by decide +kernel⟩, List.mem_of_getElem? (i := 151) (by decide +kernel), List.mem_of_getElem? (i := 614) (by decide +kernel), List.mem_of_getElem? (i := 615) (by decide +kernel)⟩
theorem lw_p26 : lw_okq (⟨"TrackRoutes$Router", "countWay", "(Z)V"⟩, 16) := ⟨⟨by decide +kernel, by decide +kernel⟩, List.mem_of_getElem? (i := 151) (by decide +kernel), List.mem_of_getElem? (i := 619) (by decide +kernel), List.mem_of_getElem? (i := 620) (by decide +kernel)⟩
theorem lw_p27 : lw_okq (⟨"TrackRoutes", "needWhat", "(II)V"⟩, 4) := ⟨⟨by decide +kernel, by decide +kernel⟩, List.mem_of_getElem? (i := 18) (by decide +kernel), List.mem_of_getElem? (i := 631) (by decide +kernel), List.mem_of_getElem? (i := 632) (by decide +kernel)⟩
theorem lw_p28 : lw_okq (⟨"TrackRoutes", "needRun", "()V"⟩, 4) := ⟨⟨by decide +kernel, by decide +kernel⟩, List.mem_of_getElem? (i := 18) (by decide +kernel), List.mem_of_getElem? (i := 636) (by decide +kernel), List.mem_of_getElem? (i := 637) (by decide +kernel)⟩
theorem lw_p29 : lw_okq (⟨"TrackRoutes", "needNotBelowZero", "(I)V"⟩, 4) := ⟨⟨by decide +kernel, by decide +kernel⟩, List.mem_of_getElem? (i := 18) (by decide +kernel), List.mem_of_getElem? (i := 660) (by decide +kernel), List.mem_of_getElem? (i := 661) (by decide +kernel)⟩
theorem lw_p30 : lw_okq (⟨"TrackRoutes$Router", "hasClash", "(I)Z"⟩, 16) := ⟨⟨by decide +kernel, by decide +kernel⟩, List.mem_of_getElem? (i := 151) (by decide +kernel), List.mem_of_getElem? (i := 691) (by decide +kernel), List.mem_of_getElem? (i := 692) (by decide +kernel)⟩
theorem lw_p31 : lw_okq (⟨"TrackRoutesModel", "refuses", "(I)Z"⟩, 32) := ⟨⟨by decide +kernel, by decide +kernel⟩, List.mem_of_getElem? (i := 709) (by decide +kernel), List.mem_of_getElem? (i := 828) (by decide +kernel), List.mem_of_getElem? (i := 829) (by decide +kernel)⟩
def lw_privs_2 : List (MethodName × Nat) := [(⟨"TrackRoutes$Front", "put", "(II)V"⟩, 4), (⟨"TrackRoutes$Front", "sink", "(I)V"⟩, 4), (⟨"TrackRoutes$Router", "isGoal", "(II)Z"⟩, 16), (⟨"TrackRoutes$Router", "offerAround", "(IIZ)V"⟩, 16), (⟨"TrackRoutes$Router", "entryCost", "(IIZ)I"⟩, 16), (⟨"TrackRoutes$Router", "dropRoute", "(I)V"⟩, 16), (⟨"TrackRoutes$Router", "traceBack", "(IIZ)V"⟩, 16), (⟨"TrackRoutes$Router", "placeBefore", "(IIZ)I"⟩, 16), (⟨"TrackRoutes$Router", "tearUp", "(I)V"⟩, 16), (⟨"TrackRoutes$Router", "layWay", "(I)V"⟩, 16), (⟨"TrackRoutes$Router", "countWay", "(Z)V"⟩, 16), (⟨"TrackRoutes", "needWhat", "(II)V"⟩, 4), (⟨"TrackRoutes", "needRun", "()V"⟩, 4), (⟨"TrackRoutes", "needNotBelowZero", "(I)V"⟩, 4), (⟨"TrackRoutes$Router", "hasClash", "(I)Z"⟩, 16), (⟨"TrackRoutesModel", "refuses", "(I)Z"⟩, 32)]
theorem lw_r2 : ∀ q ∈ lw_privs_2, lw_okq q := List.forall_mem_cons.mpr ⟨lw_p16, List.forall_mem_cons.mpr ⟨lw_p17, List.forall_mem_cons.mpr ⟨lw_p18, List.forall_mem_cons.mpr ⟨lw_p19, List.forall_mem_cons.mpr ⟨lw_p20, List.forall_mem_cons.mpr ⟨lw_p21, List.forall_mem_cons.mpr ⟨lw_p22, List.forall_mem_cons.mpr ⟨lw_p23, List.forall_mem_cons.mpr ⟨lw_p24, List.forall_mem_cons.mpr ⟨lw_p25, List.forall_mem_cons.mpr ⟨lw_p26, List.forall_mem_cons.mpr ⟨lw_p27, List.forall_mem_cons.mpr ⟨lw_p28, List.forall_mem_cons.mpr ⟨lw_p29, List.forall_mem_cons.mpr ⟨lw_p30, List.forall_mem_cons.mpr ⟨lw_p31, fun _ h => absurd h List.not_mem_nil⟩⟩⟩⟩⟩⟩⟩⟩⟩⟩⟩⟩⟩⟩⟩⟩
theorem lw_p32 : lw_okq (⟨"TrackRoutesModel", "isNet", "(I)Z"⟩, 32) := ⟨⟨by decide +kernel, by decide +kernel⟩, List.mem_of_getElem? (i := 709) (by decide +kernel), List.mem_of_getElem? (i := 840) (by decide +kernel), List.mem_of_getElem? (i := 841) (by decide +kernel)⟩
theorem lw_p33 : lw_okq (⟨"TrackRoutesModel", "placeOf", "(IJJ)I"⟩, 32) := ⟨⟨by decide +kernel, by decide +kernel⟩, List.mem_of_getElem? (i := 709) (by decide +kernel), List.mem_of_getElem? (i := 848) (by decide +kernel), List.mem_of_getElem? (i := 849) (by decide +kernel)⟩
theorem lw_p34 : lw_okq (⟨"TrackRoutesModel", "isPin", "(I)Z"⟩, 32) := ⟨⟨by decide +kernel, by decide +kernel⟩, List.mem_of_getElem? (i := 709) (by decide +kernel), List.mem_of_getElem? (i := 852) (by decide +kernel), List.mem_of_getElem? (i := 853) (by decide +kernel)⟩
theorem lw_p35 : lw_okq (⟨"TrackRoutesModel", "all", "()I"⟩, 32) := ⟨⟨by decide +kernel, by decide +kernel⟩, List.mem_of_getElem? (i := 709) (by decide +kernel), List.mem_of_getElem? (i := 860) (by decide +kernel), List.mem_of_getElem? (i := 861) (by decide +kernel)⟩
theorem lw_p36 : lw_okq (⟨"TrackRoutesModel", "layerOf", "(I)I"⟩, 32) := ⟨⟨by decide +kernel, by decide +kernel⟩, List.mem_of_getElem? (i := 709) (by decide +kernel), List.mem_of_getElem? (i := 864) (by decide +kernel), List.mem_of_getElem? (i := 865) (by decide +kernel)⟩
theorem lw_p37 : lw_okq (⟨"TrackRoutesModel", "xOf", "(I)I"⟩, 32) := ⟨⟨by decide +kernel, by decide +kernel⟩, List.mem_of_getElem? (i := 709) (by decide +kernel), List.mem_of_getElem? (i := 868) (by decide +kernel), List.mem_of_getElem? (i := 869) (by decide +kernel)⟩
theorem lw_p38 : lw_okq (⟨"TrackRoutesModel", "yOf", "(I)I"⟩, 32) := ⟨⟨by decide +kernel, by decide +kernel⟩, List.mem_of_getElem? (i := 709) (by decide +kernel), List.mem_of_getElem? (i := 872) (by decide +kernel), List.mem_of_getElem? (i := 873) (by decide +kernel)⟩
theorem lw_p39 : lw_okq (⟨"TrackRoutesModel", "pick", "()V"⟩, 32) := ⟨⟨by decide +kernel, by decide +kernel⟩, List.mem_of_getElem? (i := 709) (by decide +kernel), List.mem_of_getElem? (i := 885) (by decide +kernel), List.mem_of_getElem? (i := 886) (by decide +kernel)⟩
theorem lw_p40 : lw_okq (⟨"TrackRoutesModel", "mayBe", "(II)Z"⟩, 32) := ⟨⟨by decide +kernel, by decide +kernel⟩, List.mem_of_getElem? (i := 709) (by decide +kernel), List.mem_of_getElem? (i := 889) (by decide +kernel), List.mem_of_getElem? (i := 890) (by decide +kernel)⟩
theorem lw_p41 : lw_okq (⟨"TrackRoutesModel", "placeOfPin", "(I)I"⟩, 32) := ⟨⟨by decide +kernel, by decide +kernel⟩, List.mem_of_getElem? (i := 709) (by decide +kernel), List.mem_of_getElem? (i := 893) (by decide +kernel), List.mem_of_getElem? (i := 894) (by decide +kernel)⟩
theorem lw_p42 : lw_okq (⟨"TrackRoutesModel", "clashes", "(IIII)Z"⟩, 32) := ⟨⟨by decide +kernel, by decide +kernel⟩, List.mem_of_getElem? (i := 709) (by decide +kernel), List.mem_of_getElem? (i := 897) (by decide +kernel), List.mem_of_getElem? (i := 898) (by decide +kernel)⟩
theorem lw_p43 : lw_okq (⟨"TrackRoutesModel", "dropRoute", "(I)V"⟩, 32) := ⟨⟨by decide +kernel, by decide +kernel⟩, List.mem_of_getElem? (i := 709) (by decide +kernel), List.mem_of_getElem? (i := 904) (by decide +kernel), List.mem_of_getElem? (i := 905) (by decide +kernel)⟩
theorem lw_p44 : lw_okq (⟨"TrackRoutesModel", "isLeft", "()Z"⟩, 32) := ⟨⟨by decide +kernel, by decide +kernel⟩, List.mem_of_getElem? (i := 709) (by decide +kernel), List.mem_of_getElem? (i := 908) (by decide +kernel), List.mem_of_getElem? (i := 909) (by decide +kernel)⟩
theorem lw_p45 : lw_okq (⟨"TrackRoutesModel", "routeNet", "(I)V"⟩, 32) := ⟨⟨by decide +kernel, by decide +kernel⟩, List.mem_of_getElem? (i := 709) (by decide +kernel), List.mem_of_getElem? (i := 912) (by decide +kernel), List.mem_of_getElem? (i := 913) (by decide +kernel)⟩
theorem lw_p46 : lw_okq (⟨"TrackRoutesModel", "isDone", "(I)Z"⟩, 32) := ⟨⟨by decide +kernel, by decide +kernel⟩, List.mem_of_getElem? (i := 709) (by decide +kernel), List.mem_of_getElem? (i := 916) (by decide +kernel), List.mem_of_getElem? (i := 917) (by decide +kernel)⟩
theorem lw_p47 : lw_okq (⟨"TrackRoutesModel", "markAll", "(I)V"⟩, 32) := ⟨⟨by decide +kernel, by decide +kernel⟩, List.mem_of_getElem? (i := 709) (by decide +kernel), List.mem_of_getElem? (i := 920) (by decide +kernel), List.mem_of_getElem? (i := 921) (by decide +kernel)⟩
def lw_privs_3 : List (MethodName × Nat) := [(⟨"TrackRoutesModel", "isNet", "(I)Z"⟩, 32), (⟨"TrackRoutesModel", "placeOf", "(IJJ)I"⟩, 32), (⟨"TrackRoutesModel", "isPin", "(I)Z"⟩, 32), (⟨"TrackRoutesModel", "all", "()I"⟩, 32), (⟨"TrackRoutesModel", "layerOf", "(I)I"⟩, 32), (⟨"TrackRoutesModel", "xOf", "(I)I"⟩, 32), (⟨"TrackRoutesModel", "yOf", "(I)I"⟩, 32), (⟨"TrackRoutesModel", "pick", "()V"⟩, 32), (⟨"TrackRoutesModel", "mayBe", "(II)Z"⟩, 32), (⟨"TrackRoutesModel", "placeOfPin", "(I)I"⟩, 32), (⟨"TrackRoutesModel", "clashes", "(IIII)Z"⟩, 32), (⟨"TrackRoutesModel", "dropRoute", "(I)V"⟩, 32), (⟨"TrackRoutesModel", "isLeft", "()Z"⟩, 32), (⟨"TrackRoutesModel", "routeNet", "(I)V"⟩, 32), (⟨"TrackRoutesModel", "isDone", "(I)Z"⟩, 32), (⟨"TrackRoutesModel", "markAll", "(I)V"⟩, 32)]
theorem lw_r3 : ∀ q ∈ lw_privs_3, lw_okq q := List.forall_mem_cons.mpr ⟨lw_p32, List.forall_mem_cons.mpr ⟨lw_p33, List.forall_mem_cons.mpr ⟨lw_p34, List.forall_mem_cons.mpr ⟨lw_p35, List.forall_mem_cons.mpr ⟨lw_p36, List.forall_mem_cons.mpr ⟨lw_p37, List.forall_mem_cons.mpr ⟨lw_p38, List.forall_mem_cons.mpr ⟨lw_p39, List.forall_mem_cons.mpr ⟨lw_p40, List.forall_mem_cons.mpr ⟨lw_p41, List.forall_mem_cons.mpr ⟨lw_p42, List.forall_mem_cons.mpr ⟨lw_p43, List.forall_mem_cons.mpr ⟨lw_p44, List.forall_mem_cons.mpr ⟨lw_p45, List.forall_mem_cons.mpr ⟨lw_p46, List.forall_mem_cons.mpr ⟨lw_p47, fun _ h => absurd h List.not_mem_nil⟩⟩⟩⟩⟩⟩⟩⟩⟩⟩⟩⟩⟩⟩⟩⟩
theorem lw_p48 : lw_okq (⟨"TrackRoutesModel", "mark", "([ZIII)V"⟩, 32) := ⟨⟨by decide +kernel, by decide +kernel⟩, List.mem_of_getElem? (i := 709) (by decide +kernel), List.mem_of_getElem? (i := 924) (by decide +kernel), List.mem_of_getElem? (i := 925) (by decide +kernel)⟩
theorem lw_p49 : lw_okq (⟨"TrackRoutesModel", "lower", "(Z)V"⟩, 32) := ⟨⟨by decide +kernel, by decide +kernel⟩, List.mem_of_getElem? (i := 709) (by decide +kernel), List.mem_of_getElem? (i := 928) (by decide +kernel), List.mem_of_getElem? (i := 929) (by decide +kernel)⟩
theorem lw_p50 : lw_okq (⟨"TrackRoutesModel", "isOpen", "(IZ)Z"⟩, 32) := ⟨⟨by decide +kernel, by decide +kernel⟩, List.mem_of_getElem? (i := 709) (by decide +kernel), List.mem_of_getElem? (i := 933) (by decide +kernel), List.mem_of_getElem? (i := 934) (by decide +kernel)⟩
theorem lw_p51 : lw_okq (⟨"TrackRoutesModel", "beside", "(II)I"⟩, 32) := ⟨⟨by decide +kernel, by decide +kernel⟩, List.mem_of_getElem? (i := 709) (by decide +kernel), List.mem_of_getElem? (i := 937) (by decide +kernel), List.mem_of_getElem? (i := 938) (by decide +kernel)⟩
theorem lw_p52 : lw_okq (⟨"TrackRoutesModel", "stepCost", "(II)I"⟩, 32) := ⟨⟨by decide +kernel, by decide +kernel⟩, List.mem_of_getElem? (i := 709) (by decide +kernel), List.mem_of_getElem? (i := 941) (by decide +kernel), List.mem_of_getElem? (i := 942) (by decide +kernel)⟩
theorem lw_p53 : lw_okq (⟨"TrackRoutesModel", "extra", "(I)I"⟩, 32) := ⟨⟨by decide +kernel, by decide +kernel⟩, List.mem_of_getElem? (i := 709) (by decide +kernel), List.mem_of_getElem? (i := 945) (by decide +kernel), List.mem_of_getElem? (i := 946) (by decide +kernel)⟩
theorem lw_p54 : lw_okq (⟨"TrackRoutesModel", "goal", "(I)I"⟩, 32) := ⟨⟨by decide +kernel, by decide +kernel⟩, List.mem_of_getElem? (i := 709) (by decide +kernel), List.mem_of_getElem? (i := 949) (by decide +kernel), List.mem_of_getElem? (i := 950) (by decide +kernel)⟩
theorem lw_p55 : lw_okq (⟨"TrackRoutesModel", "take", "(II)V"⟩, 32) := ⟨⟨by decide +kernel, by decide +kernel⟩, List.mem_of_getElem? (i := 709) (by decide +kernel), List.mem_of_getElem? (i := 953) (by decide +kernel), List.mem_of_getElem? (i := 954) (by decide +kernel)⟩
theorem lw_p56 : lw_okq (⟨"TrackRoutesModel", "backFrom", "(I)I"⟩, 32) := ⟨⟨by decide +kernel, by decide +kernel⟩, List.mem_of_getElem? (i := 709) (by decide +kernel), List.mem_of_getElem? (i := 957) (by decide +kernel), List.mem_of_getElem? (i := 958) (by decide +kernel)⟩
theorem lw_p57 : lw_okq (⟨"TrackRoutesModel", "tearAt", "(II)V"⟩, 32) := ⟨⟨by decide +kernel, by decide +kernel⟩, List.mem_of_getElem? (i := 709) (by decide +kernel), List.mem_of_getElem? (i := 961) (by decide +kernel), List.mem_of_getElem? (i := 962) (by decide +kernel)⟩
theorem lw_p58 : lw_okq (⟨"TrackRoutesModel", "stands", "(II)Z"⟩, 32) := ⟨⟨by decide +kernel, by decide +kernel⟩, List.mem_of_getElem? (i := 709) (by decide +kernel), List.mem_of_getElem? (i := 970) (by decide +kernel), List.mem_of_getElem? (i := 971) (by decide +kernel)⟩
theorem lw_p59 : lw_okq (⟨"TrackRoutesModel", "findStanding", "()V"⟩, 32) := ⟨⟨by decide +kernel, by decide +kernel⟩, List.mem_of_getElem? (i := 709) (by decide +kernel), List.mem_of_getElem? (i := 990) (by decide +kernel), List.mem_of_getElem? (i := 991) (by decide +kernel)⟩
theorem lw_p60 : lw_okq (⟨"TrackRoutesModel", "isBroken", "(I)Z"⟩, 32) := ⟨⟨by decide +kernel, by decide +kernel⟩, List.mem_of_getElem? (i := 709) (by decide +kernel), List.mem_of_getElem? (i := 994) (by decide +kernel), List.mem_of_getElem? (i := 995) (by decide +kernel)⟩
def lw_privs_4 : List (MethodName × Nat) := [(⟨"TrackRoutesModel", "mark", "([ZIII)V"⟩, 32), (⟨"TrackRoutesModel", "lower", "(Z)V"⟩, 32), (⟨"TrackRoutesModel", "isOpen", "(IZ)Z"⟩, 32), (⟨"TrackRoutesModel", "beside", "(II)I"⟩, 32), (⟨"TrackRoutesModel", "stepCost", "(II)I"⟩, 32), (⟨"TrackRoutesModel", "extra", "(I)I"⟩, 32), (⟨"TrackRoutesModel", "goal", "(I)I"⟩, 32), (⟨"TrackRoutesModel", "take", "(II)V"⟩, 32), (⟨"TrackRoutesModel", "backFrom", "(I)I"⟩, 32), (⟨"TrackRoutesModel", "tearAt", "(II)V"⟩, 32), (⟨"TrackRoutesModel", "stands", "(II)Z"⟩, 32), (⟨"TrackRoutesModel", "findStanding", "()V"⟩, 32), (⟨"TrackRoutesModel", "isBroken", "(I)Z"⟩, 32)]
theorem lw_r4 : ∀ q ∈ lw_privs_4, lw_okq q := List.forall_mem_cons.mpr ⟨lw_p48, List.forall_mem_cons.mpr ⟨lw_p49, List.forall_mem_cons.mpr ⟨lw_p50, List.forall_mem_cons.mpr ⟨lw_p51, List.forall_mem_cons.mpr ⟨lw_p52, List.forall_mem_cons.mpr ⟨lw_p53, List.forall_mem_cons.mpr ⟨lw_p54, List.forall_mem_cons.mpr ⟨lw_p55, List.forall_mem_cons.mpr ⟨lw_p56, List.forall_mem_cons.mpr ⟨lw_p57, List.forall_mem_cons.mpr ⟨lw_p58, List.forall_mem_cons.mpr ⟨lw_p59, List.forall_mem_cons.mpr ⟨lw_p60, fun _ h => absurd h List.not_mem_nil⟩⟩⟩⟩⟩⟩⟩⟩⟩⟩⟩⟩⟩
def lw_privs : List (MethodName × Nat) := lw_privs_1 ++ (lw_privs_2 ++ (lw_privs_3 ++ (lw_privs_4)))
def lw_tbl : List Cond := k2_sels lw_privs ++ tables_1
theorem lw_privs_ok : ∀ q ∈ lw_privs, lw_okq q := by
  show ∀ q ∈ lw_privs_1 ++ (lw_privs_2 ++ (lw_privs_3 ++ (lw_privs_4))), lw_okq q
  exact List.forall_mem_append.mpr ⟨lw_r1, List.forall_mem_append.mpr ⟨lw_r2, List.forall_mem_append.mpr ⟨lw_r3, lw_r4⟩⟩⟩
end
section
/-! ===== a throw from below, caught by a row of this method's table behind rows that are passed (after Shelf42/NT86, NT97, which rounds don't have) ===== -/
section VY
def vy_Passed (pl : Platform) (s₀ : State) (d : ClassId) (pc : Nat) (thrown : ClassId) (y : ExceptionTableEntry) : Prop :=
  covers y pc = false ∨ (y.catchType ≠ 0 ∧ ∃ c, s₀.vm.ClassLinks pl d y.catchType c ∧ s₀.vm.assignable thrown c = false)
def vy_Finds (e : Env) (s : State) (f : JFrame) (a : Addr) (h : Handler) (vm' : Vm) : Prop :=
  ∀ (Q : Handler → Pre) (E : CtlPost) (d : Bool) (acts : List Action), Sem.wp (findHandler f a) Q E e d acts s ↔ Q h d acts (s.setVm vm')
section
variable {Q : Handler → Pre} {E : CtlPost} {e : Env} {d : Bool} {acts : List Action} {s : State} {f : JFrame} {a : Addr}
theorem vy_go_link {x : ExceptionTableEntry} {t : List ExceptionTableEntry} {c : ClassId} {cell : Cell} (hx : covers x f.pc = true) (h0 : x.catchType ≠ 0)
    (hl : s.vm.ClassLinks e.platform f.method.cls x.catchType c) (hcell : s.heap[a]? = some cell) (hobj : ∀ k, cell.vm ≠ .statics k)
    (hk : ∃ k, s.vm.classes[cell.cls]? = some k) (hc : ∃ k, s.vm.classes[c]? = some k) (hfit : s.vm.assignable cell.cls c = true) :
    Sem.wp (findHandler.go f a (x :: t)) Q E e d acts s ↔ Q (.found x.handlerPc) d acts (s.setVm (s.vm.noted f.method.cls x.catchType (.cls c))) := by
  simp only [covers] at hx
  obtain ⟨ha, ht⟩ := (resolveClass_links e.toSetting hl).op (op := VmOp.resolveClass f.method.cls x.catchType) rfl
  have hal : s.vm.Alike (s.vm.noted f.method.cls x.catchType (.cls c)) := (Vm.Alike.refl s.vm).noted _ _ _
  obtain ⟨k1, hk1⟩ := hk
  obtain ⟨k2, hk2⟩ := hc
  obtain ⟨k1', hk1', -⟩ := hal.2.2 _ _ hk1
  obtain ⟨k2', hk2', -⟩ := hal.2.2 _ _ hk2
  have hfit' : (s.vm.noted f.method.cls x.catchType (.cls c)).assignable cell.cls c = true := by rw [hal.assignable]; exact hfit
  simp [findHandler.go, hx, h0, ha, ht, hcell, hobj, hk1', hk2', hfit', VmOp.dirties, VmOp.acts]
theorem vy_go_linkNo {x : ExceptionTableEntry} {t : List ExceptionTableEntry} {c : ClassId} {cell : Cell} (hx : covers x f.pc = true) (h0 : x.catchType ≠ 0)
    (hl : s.vm.ClassLinks e.platform f.method.cls x.catchType c) (hcell : s.heap[a]? = some cell) (hobj : ∀ k, cell.vm ≠ .statics k)
    (hk : ∃ k, s.vm.classes[cell.cls]? = some k) (hc : ∃ k, s.vm.classes[c]? = some k) (hno : s.vm.assignable cell.cls c = false) :
    Sem.wp (findHandler.go f a (x :: t)) Q E e d acts s ↔ Sem.wp (findHandler.go f a t) Q E e d acts (s.setVm (s.vm.noted f.method.cls x.catchType (.cls c))) := by
  simp only [covers] at hx
  obtain ⟨ha, ht⟩ := (resolveClass_links e.toSetting hl).op (op := VmOp.resolveClass f.method.cls x.catchType) rfl
  have hal : s.vm.Alike (s.vm.noted f.method.cls x.catchType (.cls c)) := (Vm.Alike.refl s.vm).noted _ _ _
  obtain ⟨k1, hk1⟩ := hk
  obtain ⟨k2, hk2⟩ := hc
  obtain ⟨k1', hk1', -⟩ := hal.2.2 _ _ hk1
  obtain ⟨k2', hk2', -⟩ := hal.2.2 _ _ hk2
  have hno' : (s.vm.noted f.method.cls x.catchType (.cls c)).assignable cell.cls c = false := by rw [hal.assignable]; exact hno
  simp [findHandler.go, hx, h0, ha, ht, hcell, hobj, hk1', hk2', hno', VmOp.dirties, VmOp.acts]
end
theorem vy_through {e : Env} {s₀ : State} {f : JFrame} {a : Addr} {cell : Cell} (hobj : ∀ k, cell.vm ≠ .statics k) (hk0 : ∃ k, s₀.vm.classes[cell.cls]? = some k)
    (x : ExceptionTableEntry) (rest : List ExceptionTableEntry) (hx : covers x f.pc = true) (h0 : x.catchType ≠ 0) {c : ClassId} (hl : s₀.vm.ClassLinks e.platform f.method.cls x.catchType c) (hfit : s₀.vm.assignable cell.cls c = true) :
    ∀ (pre : List ExceptionTableEntry) (S : State), s₀.WarmedH S.vm → S.heap[a]? = some cell → (∀ y ∈ pre, vy_Passed e.platform s₀ f.method.cls f.pc cell.cls y) →
      ∃ vm', s₀.WarmedH vm' ∧ ∀ (Q : Handler → Pre) (E : CtlPost) (d : Bool) (acts : List Action), Sem.wp (findHandler.go f a (pre ++ x :: rest)) Q E e d acts S ↔ Q (.found x.handlerPc) d acts (S.setVm vm') := by
  obtain ⟨k0, hk0⟩ := hk0
  intro pre
  induction pre with
  | nil =>
    intro S hW hcell _
    obtain ⟨k0', hk0', -⟩ := hW.alike.2.2 _ _ hk0
    obtain ⟨dk, _, _, kt, hd, _, _, _, _, hkt, _, hopen⟩ := hl.here
    obtain ⟨kt', hkt', -⟩ := hW.alike.2.2 _ _ hkt
    exact ⟨_, hW.noted hd hopen (State.rightAt_cls hl), fun Q E d acts => by
      rw [List.nil_append]
      exact vy_go_link hx h0 (hW.classLinks hl) hcell hobj ⟨k0', hk0'⟩ ⟨kt', hkt'⟩ (by rw [hW.alike.assignable]; exact hfit)⟩
  | cons y ys ih =>
    intro S hW hcell hpass
    obtain ⟨k0', hk0', -⟩ := hW.alike.2.2 _ _ hk0
    have hrest : ∀ z ∈ ys, vy_Passed e.platform s₀ f.method.cls f.pc cell.cls z := fun z hz => hpass z (List.mem_cons_of_mem _ hz)
    by_cases hcov : covers y f.pc = true
    · rcases hpass y (List.mem_cons_self ..) with h | ⟨h1, c1, hl1, hno⟩
      · rw [h] at hcov; cases hcov
      · obtain ⟨dk, _, _, kt, hd, _, _, _, _, hkt, _, hopen⟩ := hl1.here
        obtain ⟨kt', hkt', -⟩ := hW.alike.2.2 _ _ hkt
        obtain ⟨vm', hW', hq⟩ := ih (S.setVm (S.vm.noted f.method.cls y.catchType (.cls c1))) (hW.noted hd hopen (State.rightAt_cls hl1)) hcell hrest
        exact ⟨vm', hW', fun Q E d acts => by
          rw [List.cons_append, vy_go_linkNo hcov h1 (hW.classLinks hl1) hcell hobj ⟨k0', hk0'⟩ ⟨kt', hkt'⟩ (by rw [hW.alike.assignable]; exact hno)]
          exact hq Q E d acts⟩
    · obtain ⟨vm', hW', hq⟩ := ih S hW hcell hrest
      exact ⟨vm', hW', fun Q E d acts => by
        rw [List.cons_append, Jvm.W.findHandler_go_skip (by simpa using hcov)]
        exact hq Q E d acts⟩
theorem vy_step {e : Env} {s : State} {a : Addr} {f : JFrame} {r : List Frame} {pc : Nat} {vm' : Vm} (hfind : vy_Finds e s f a (.found pc) vm') :
    (stepThrowing e s a (.java f :: r)).Is ((s.setVm vm').setFrames (.java { f with pc := pc, stack := [.ref a] } :: r)) [] := by
  simp only [stepThrowing, searchFrame, vmDo]
  generalize hr : Sem.go _ e false [] s = res
  obtain ⟨as, rfl, ha⟩ := Sem.eq_ok_of hr (a := Handler.found pc) (s' := s.setVm vm') (acts' := []) (by simp [hfind _ _ _ _])
  exact ⟨rfl, ha⟩
theorem vy_frames (u : State) (vm' : Vm) (F G : List Frame) : ((u.setFrames F).setVm vm').setFrames G = (u.setVm vm').setFrames G := by
  have h1 : (u.setFrames F).setVm vm' = (u.setVm vm').setFrames F := rfl
  rw [h1, State.setFrames_setFrames]
theorem vy_caught {tb : Tables} {e : Env} {s target : State} {g : JFrame} {c : Code} {below : List Frame} {a : Addr} (h : At s g.method c below) {pc : Nat} {vm' : Vm}
    (hfind : vy_Finds e ((s.setTop g).pushFrame (.throwing a)) g a (.found pc) vm') (hrest : Steps tb e below ((s.setVm vm').setTop { g with pc := pc, stack := [.ref a] }) target) :
    Steps tb e below ((s.setTop g).pushFrame (.throwing a)) target := by
  obtain ⟨hgo, hw⟩ := h.throwing a
  refine Steps.head hgo hw ?_
  rw [stepThread_throwing (frames_entered h.top _), (vy_step (s := (s.setTop g).pushFrame (.throwing a)) hfind).1]
  obtain ⟨g₀, hg⟩ := Option.isSome_iff_exists.mp h.top
  obtain ⟨r, hr⟩ := State.topJava?_eq_some.mp hg
  have hr' : (s.setVm vm').frames = .java g₀ :: r := hr
  rw [State.setTop_of_frames _ hr'] at hrest
  rw [hr, List.tail_cons, State.pushFrame, vy_frames, State.setTop_of_frames _ hr, vy_frames]
  exact hrest
variable {p : Program} {l : Launch} {e : Env} {R : Room} {s : State} {m : MethodId} {args : Array Value} {below : List Frame} {meth : Method} {c : Code} {H : Heap} {locs : List Loc} {cells slots : Nat} {Q : State → Prop} {pc : Nat} {ls : Array Slot} {rest : List Value}
theorem vy_catch {own name : String} {E : String} {ce : Cell} {q : Addr} (hown : s.vm.findClass own = some m.cls) (pre : List ExceptionTableEntry) (x : ExceptionTableEntry) (suf : List ExceptionTableEntry) (hsplit : c.exceptionTable.toList = pre ++ x :: suf)
    (hpass : ∀ z ∈ pre, covers z pc = false ∨ (z.catchType ≠ 0 ∧ ∃ nm : String, (Cond.classLink own z.catchType nm).before args s = true ∧ va_Nc E nm s)) (hx : covers x pc = true) (h0 : x.catchType ≠ 0)
    (hlink : (Cond.classLink own x.catchType name).before args s = true) (hcast : (Cond.castable E name).before args s = true) (hcell : H[q]? = some ce) (hv : ce.vm = .none) (hcl : s.vm.findClass E = some ce.cls)
    (kk : W p l e R s m args below meth c H locs cells slots Q (F0 m x.handlerPc ls [.ref q])) :
    ∀ T : State, T.heap = H → Stand p l e R s m args below meth c T locs cells slots → ∃ t, Steps p.tables e below ((T.setTop (F0 m pc ls rest)).pushFrame (.throwing q)) t ∧ Q t := by
  intro T hT X
  have hpl : e.platform.magicAccessors = ({} : Platform).magicAccessors := by rw [X.admits.platform]
  obtain ⟨c3, c4, hc3, hc4, hasg⟩ := Cond.castable_spec hcast
  cases Option.some.inj (hc3.symm.trans hcl)
  obtain ⟨c5, hc5, hcl5⟩ := Cond.classLink_spec hown hlink e.platform hpl
  cases Option.some.inj (hc4.symm.trans hc5)
  have hk0 : ∃ k, s.vm.classes[ce.cls]? = some k := by
    obtain ⟨k9, h9, -⟩ := Vm.findClass_spec hcl
    exact ⟨k9, h9⟩
  obtain ⟨vm', hW', hq⟩ := vy_through (e := e) (s₀ := s) (f := F0 m pc ls rest) (a := q) (cell := ce) (fun k z => by rw [hv] at z; cases z) hk0 x suf hx h0 hcl5 hasg pre ((T.setTop (F0 m pc ls rest)).pushFrame (.throwing q)) X.warmed (by
      show T.heap[q]? = some ce
      rw [hT]; exact hcell)
    (fun z hz => by
      rcases hpass z hz with h | ⟨hz0, nm, hl1, hn1⟩
      · exact Or.inl h
      · obtain ⟨c6, hc6, hcl6⟩ := Cond.classLink_spec hown hl1 e.platform hpl
        obtain ⟨a8, b8, h1, h2, h3⟩ := hn1
        cases Option.some.inj (h1.symm.trans hcl)
        cases Option.some.inj (h2.symm.trans hc6)
        exact Or.inr ⟨hz0, _, hcl6, h3⟩)
  have hf : vy_Finds e ((T.setTop (F0 m pc ls rest)).pushFrame (.throwing q)) (F0 m pc ls rest) q (.found x.handlerPc) vm' := fun Q E d acts => by
    rw [Jvm.W.findHandler_eq (meth := meth) (code := c) X.method' X.code, hsplit]
    exact hq Q E d acts
  obtain ⟨t, a1, b1⟩ := kk (T.setVm vm') hT (X.noted hW')
  exact ⟨t, vy_caught (g := F0 m pc ls rest) X.here hf a1, b1⟩
end VY
end
section
/-! ===== BEGIN words of one list among another's, by their places ===== -/
theorem goodIn_r {big : List Cond} (ws : List Cond) (ps : List Nat) (hp : ws = ps.filterMap (fun i => big[i]?)) (h : ws.all goodWord = true) : GoodIn big ws := by
  intro w hw
  have h1 := List.all_eq_true.mp h w hw
  rw [hp] at hw
  obtain ⟨i, -, hi⟩ := List.mem_filterMap.mp hw
  have hm : w ∈ big := by first | exact List.mem_of_getElem? hi | exact List.getElem?_mem hi
  exact ⟨hm, good_of_word h1⟩
theorem goodIn_app {big a b : List Cond} (ha : GoodIn big a) (hb : GoodIn big b) : GoodIn big (a ++ b) := fun w h => (List.mem_append.mp h).elim (ha w) (hb w)
theorem goodIn_ca {big a b : List Cond} {c : Cond} (ha : GoodIn big (c :: a)) (hb : GoodIn big b) : GoodIn big (c :: (a ++ b)) := fun w h => (List.mem_cons.mp h).elim (fun e => ha w (List.mem_cons.mpr (Or.inl e))) (fun h => (List.mem_append.mp h).elim (fun h => ha w (List.mem_cons.mpr (Or.inr h))) (hb w))
theorem goodIn_sub {big ws : List Cond} (hm : ∀ w ∈ ws, w ∈ big) (h : ws.all goodWord = true) : GoodIn big ws := fun w hw => ⟨hm w hw, good_of_word (List.all_eq_true.mp h w hw)⟩
/-! ===== END ===== -/

/-! ===== BEGIN exceptions that leave a method, and their catching by the caller (launches without stack traces) ===== -/
section VXA
/-! The laws vx_back, vx_callV, vx_callS, vx_callSW, vx_throw0, vx_throwS follow proofs of the library, with one case more: JvmDerived/Free/Laws.lean (Back.of_free), Shelf42/LK1.lean (callV, callS), Shelf/KitTraced.lean (throwNew0V, throwNewS). -/
/-- where a method has thrown q: the class by its name, the cell, what was written, the world -/
def vx_T (XC : String → State → State → Prop) (st : State) (q : Addr) (t : State) (mc ms : Nat) (free : Addr → Prop) : Prop :=
  ∃ (E : String) (ce : Cell) (L : List Loc), XC E st t ∧ t.heap[q]? = some ce ∧ ce.vm = .none ∧ st.vm.findClass E = some ce.cls ∧ st.WarmedH t.vm ∧ st.sameButNew ({ t with vm := st.vm } : State) L mc ms ∧ ∀ z ∈ L, free z.base
def vx_Q (Qc : Array Value → State → Outcome → State → Prop) (XC : String → State → State → Prop) (mc ms : Nat) (free : Addr → Prop) : Array Value → State → Outcome → State → Prop := fun a st o t =>
  (Qc a st o t ∧ ∃ L, FrameEnd st o t L mc ms ∧ ∀ q ∈ L, free q.base) ∨ ∃ q, o = .threw q ∧ vx_T XC st q t mc ms free
/-- a callee that returns or throws -/
def vx_Met (l : Launch) (y : MethodName) (ws : List Cond) (rm : Room) (Pc : Array Value → State → Prop) (Qc : Array Value → State → Outcome → State → Prop) (XC : String → State → State → Prop) (mc ms : Nat) (free : Addr → Prop) : Prop :=
  MetFree l y (headSpec ws rm) Pc (fun _ _ _ _ _ => True) (vx_Q Qc XC mc ms free)
def vx_Post (XC : String → State → State → Prop) (mc ms : Nat) (free : Addr → Prop) : Pt → Array Value → Addr → Pt → Prop := fun A a q B =>
  ∃ (g : JFrame) (mk : MethodId) (t : State) (L : List Loc) (E : String) (ce : Cell), B.U.heap = t.heap ∧ B.U.vm = t.vm ∧ XC E (A.U.calling g mk a) t ∧ t.heap[q]? = some ce ∧ ce.vm = .none ∧ A.U.vm.findClass E = some ce.cls ∧ B.locs = A.locs ++ L ∧ (∀ z ∈ L, free z.base) ∧ B.cells = A.cells + mc ∧ B.slots = A.slots + ms
def vx_Back (l : Launch) (R : Room) (p : Program) (e : Env) (below : List Frame) (s : State) (sargs : Array Value) (y : MethodName) (len W9 : Nat)
    (Pre : Pt → Array Value → Prop) (Post : Pt → Array Value → Option Value → Pt → Prop) (PostX : Pt → Array Value → Addr → Pt → Prop) : Prop :=
  ∀ (m : MethodId) (meth : Method) (c : Code) (A : Pt) (g : JFrame) (ig : Instr) (mk : MethodId) (a : Array Value),
    Stand p l e R s m sargs below meth c A.U A.locs A.cells A.slots → g.method = m → g.locals.size = c.maxLocals → decode c.code g.pc = .ok (ig, len) →
    2 * g.monitorRoom + (g.stack.map fun v => v.category).sum ≤ W9 → A.U.methodNamed? y = some mk → Pre A a →
    (∃ (v : Option Value) (B : Pt), Stand p l e R s m sargs below meth c B.U B.locs B.cells B.slots ∧ Post A a v B ∧
      Steps p.tables e below (doInvoke e (A.U.setTop g) [] mk a).1 (B.U.setTop { g with pc := g.pc + len, stack := v.toList ++ g.stack })) ∨
    (∃ (q : Addr) (B : Pt), Stand p l e R s m sargs below meth c B.U B.locs B.cells B.slots ∧ PostX A a q B ∧
      Steps p.tables e below (doInvoke e (A.U.setTop g) [] mk a).1 ((B.U.setTop g).pushFrame (.throwing q)))
section Payer
variable {l : Launch} {R : Room} {p : Program} {e : Env} {below : List Frame} {s : State} {sargs : Array Value} {y : MethodName} {len W9 : Nat}
theorem vx_back {ws : List Cond} {rm : Room} {Pc : Array Value → State → Prop} {Qc : Array Value → State → Outcome → State → Prop} {XC : String → State → State → Prop} {mc ms : Nat} {free : Addr → Prop} {bytes : ByteArray} {maxL : Nat} {ret : Option FieldType}
    (hM : vx_Met l y ws rm Pc Qc XC mc ms free) (hblind : FrameBlind Pc) (hrc : rm.cells = mc) (hrs : rm.slots = ms)
    (hframes : rm.frames + 1 ≤ R.frames) (hlocals : W9 + (maxL + 11) + rm.locals ≤ R.locals)
    (hws : ∀ w ∈ ws, ∀ a' U, s.WarmedH U.vm → w.before a' U = true) (hcode : Cond.code y bytes maxL ret ∈ ws) (hinit : ∀ a' U, s.WarmedH U.vm → (Cond.initialized y.cls).before a' U = true) :
    vx_Back l R p e below s sargs y len W9 (PreOf R mc ms Pc) (PostOf Qc mc ms free) (vx_Post XC mc ms free) := by
  intro m meth c A g ig mk a X hg hsize hdg hW hn hp
  have h1 : (headSpec ws rm).pre.before a A.U = true := atoms_intro fun w hw => hws w hw _ _ X.warmed
  have h2 : (Cond.code y bytes maxL ret).before a A.U = true := hws _ hcode _ _ X.warmed
  have h3 : (Cond.initialized y.cls).before a A.U = true := hinit _ _ X.warmed
  have h4 : A.cells + (headSpec ws rm).room.cells ≤ R.cells := by rw [show (headSpec ws rm).room.cells = mc from hrc]; exact hp.1
  have h5 : A.slots + (headSpec ws rm).room.slots ≤ R.slots := by rw [show (headSpec ws rm).room.slots = ms from hrs]; exact hp.2.1
  have hPc : Pc a (A.U.calling g mk a) := hblind _ _ _ _ hp.2.2
  obtain ⟨U, Ls, c0, s0⟩ := A
  dsimp only [Pt.U, Pt.locs, Pt.cells, Pt.slots] at h1 h2 h3 h4 h5 X hn hPc ⊢
  obtain ⟨methY, cY, hmY, hcY, -, hlY, -, -, -, -⟩ := Cond.code_spec hn h2
  obtain ⟨kY, hkY, -⟩ := className_of_methodNamed hn
  have hinitY : kY.init = .initialized := Cond.initialized_spec (findClass_of_methodNamed hn) hkY h3
  have h : At U g.method c below := by rw [hg]; exact X.here
  have hlocals9 : W9 + (maxL + 11) + (headSpec ws rm).room.locals ≤ R.locals := hlocals
  have happ : (headSpec ws rm).appliesLoose y e.platform (U.calling g mk a) = true :=
    Spec.appliesLoose_calling (g := g) h hdg hn hkY hinitY
      (X.room_calling (g := g) (R' := (headSpec ws rm).room) hsize hmY hcY hframes (by rw [hlY]; omega) h4 h5) h1
  obtain ⟨mid, hmid⟩ := h.above
  have hfr : (U.setTop g).frames = (.java g :: mid) ++ below := by rw [State.frames_setTop' g h.top, hmid]; rfl
  obtain ⟨o, s₂, hsteps, -, hend, hq⟩ := Steps.callFree hM p X.admits X.cas X.clock (acts := []) hfr happ hPc trivial
  have hq' : vx_Q Qc XC mc ms free a (U.calling g mk a) o s₂ := hq
  rw [State.frames_setTop' g h.top] at hend
  obtain ⟨g₀, hg0⟩ := Option.isSome_iff_exists.mp h.top
  obtain ⟨r, hr⟩ := State.topJava?_eq_some.mp hg0
  have hr' : (({ U with heap := s₂.heap, slotsUsed := s₂.slotsUsed } : State).setVm s₂.vm).frames = .java g₀ :: r := hr
  rcases hq' with ⟨hqc, L, hfe, hL⟩ | ⟨q, rfl, E, ce, L, hx, hce, hcv, hcl, hW₂, hsm, hL⟩
  · obtain ⟨⟨v, rfl⟩, hW₂, e2, q2, q3, q4, q5, q6⟩ := id hfe
    have e3 : s₂ = ({ (U.calling g mk a).setFrames s₂.frames with heap := s₂.heap, slotsUsed := s₂.slotsUsed } : State).setVm s₂.vm := by
      have : s₂ = ({ s₂ with vm := (U.calling g mk a).vm } : State).setVm s₂.vm := rfl
      rw [e2] at this
      exact this
    obtain ⟨c₂, i₂, len₂, hc₂, hd₂, hf₂⟩ := hend
    have hW' : U.WarmedH s₂.vm := hW₂
    have hcc : c₂ = c := by
      have h1 : s₂.code? g.method = U.code? g.method := by
        rw [State.code?_eq, State.code?_eq, hW'.alike.method?]
      exact Option.some.inj (hc₂.symm.trans (h1.trans h.code))
    subst hcc
    have hlen : len₂ = len := by rw [hdg] at hd₂; cases hd₂; rfl
    subst hlen
    have hs₂ : s₂ = (({ U with heap := s₂.heap, slotsUsed := s₂.slotsUsed } : State).setVm s₂.vm).setTop { g with pc := g.pc + len₂, stack := v.toList ++ g.stack } := by
      refine e3.trans ?_
      rw [hf₂, State.calling_eq h.top, State.setFrames_setFrames, State.setTop_of_frames _ hr', hr]
      rfl
    have hsame : U.sameButNew ({ U with heap := s₂.heap, slotsUsed := s₂.slotsUsed } : State) L mc ms := by
      refine ⟨?_, q2, q3, q4, q5, q6⟩
      obtain ⟨t, ht, -⟩ := State.frames_cons hr
      show ({ U with heap := s₂.heap, slotsUsed := s₂.slotsUsed } : State) = { U.setFrames U.frames with heap := s₂.heap, slotsUsed := s₂.slotsUsed }
      rw [State.setFrames_self ht]
    subst hg
    refine Or.inl ⟨v, ⟨(({ U with heap := s₂.heap, slotsUsed := s₂.slotsUsed } : State).setVm s₂.vm), Ls ++ L, c0 + mc, s0 + ms⟩,
      ⟨X.admits, X.cas, X.clock, X.frames, X.room, X.hears, X.method, X.code, (X.here.setHeapUsed s₂.heap s₂.slotsUsed).setVm hW'.alike, X.tail, State.WarmedH.trans X.warmed hW', X.limits, X.bytes, X.same.trans (hsame.setVm s.vm)⟩,
      ⟨g, mk, s₂, L, rfl, rfl, hqc, rfl, hL, rfl, rfl⟩, ?_⟩
    show Steps p.tables e below _ ((({ U with heap := s₂.heap, slotsUsed := s₂.slotsUsed } : State).setVm s₂.vm).setTop { g with pc := g.pc + len₂, stack := v.toList ++ g.stack })
    rw [← hs₂]
    exact hsteps
  · obtain ⟨e2, q2, q3, q4, q5, q6⟩ := id hsm
    have e3 : s₂ = ({ (U.calling g mk a).setFrames s₂.frames with heap := s₂.heap, slotsUsed := s₂.slotsUsed } : State).setVm s₂.vm := by
      have : s₂ = ({ s₂ with vm := (U.calling g mk a).vm } : State).setVm s₂.vm := rfl
      rw [e2] at this
      exact this
    have hf₂ : s₂.frames = .throwing q :: .java g :: U.frames.tail := hend
    have hW' : U.WarmedH s₂.vm := hW₂
    have hs₂ : s₂ = ((({ U with heap := s₂.heap, slotsUsed := s₂.slotsUsed } : State).setVm s₂.vm).setTop g).pushFrame (.throwing q) := by
      refine e3.trans ?_
      rw [hf₂, State.calling_eq h.top, State.setFrames_setFrames, State.pushFrame, State.frames_setTop _ hr', State.setTop_of_frames _ hr', State.setFrames_setFrames, hr]
      rfl
    have hsame : U.sameButNew ({ U with heap := s₂.heap, slotsUsed := s₂.slotsUsed } : State) L mc ms := by
      refine ⟨?_, q2, q3, q4, q5, q6⟩
      obtain ⟨t, ht, -⟩ := State.frames_cons hr
      show ({ U with heap := s₂.heap, slotsUsed := s₂.slotsUsed } : State) = { U.setFrames U.frames with heap := s₂.heap, slotsUsed := s₂.slotsUsed }
      rw [State.setFrames_self ht]
    subst hg
    refine Or.inr ⟨q, ⟨(({ U with heap := s₂.heap, slotsUsed := s₂.slotsUsed } : State).setVm s₂.vm), Ls ++ L, c0 + mc, s0 + ms⟩,
      ⟨X.admits, X.cas, X.clock, X.frames, X.room, X.hears, X.method, X.code, (X.here.setHeapUsed s₂.heap s₂.slotsUsed).setVm hW'.alike, X.tail, State.WarmedH.trans X.warmed hW', X.limits, X.bytes, X.same.trans (hsame.setVm s.vm)⟩,
      ⟨g, mk, s₂, L, E, ce, rfl, rfl, hx, hce, hcv, hcl, rfl, hL, rfl, rfl⟩, ?_⟩
    show Steps p.tables e below _ (((({ U with heap := s₂.heap, slotsUsed := s₂.slotsUsed } : State).setVm s₂.vm).setTop g).pushFrame (.throwing q))
    rw [← hs₂]
    exact hsteps
end Payer
section Calls
variable {p : Program} {l : Launch} {e : Env} {R : Room} {s : State} {m : MethodId} {args : Array Value} {below : List Frame} {meth : Method} {c : Code} {T : State} {locs : List Loc} {cells slots : Nat}
theorem vx_callV (X : Stand p l e R s m args below meth c T locs cells slots) (hexec : p.tables.exec = Jvm.exec) {own C : String} {index : Nat} {y : MethodName} {bytes : ByteArray} {maxL : Nat} {ret : Option FieldType}
    (hown : s.vm.findClass own = some m.cls) (hlink : (Cond.methodLink own index y).before args s = true) (hinst : (Cond.instanceMethod y).before args s = true) (hsel : (Cond.selects C y y).before args s = true)
    (hcode : (Cond.code y bytes maxL ret).before args s = true) (hy : y.cls ≠ "java/lang/invoke/MethodHandle" ∧ y.cls ≠ "java/lang/invoke/VarHandle")
    {W9 : Nat} {Pre : Pt → Array Value → Prop} {Post : Pt → Array Value → Option Value → Pt → Prop} {PostX : Pt → Array Value → Addr → Pt → Prop} (hK : vx_Back l R p e below s args y 3 W9 Pre Post PostX)
    {b : Addr} {cellB : Cell} (hcell : T.heap[b]? = some cellB) (hobj : cellB.vm.isStatics = false) (hcls : s.vm.findClass C = some cellB.cls)
    {g : JFrame} (hg : g.method = m) (hsize : g.locals.size = c.maxLocals) {argsL rest : List Value} (hlen : ∀ sig, parseMethodDescriptor y.desc = some sig → argsL.length = sig.parameters.length)
    (hstack : g.stack = argsL.reverse ++ .ref b :: rest) (hW : 2 * g.monitorRoom + (rest.map fun v => v.category).sum ≤ W9) (hdg : decode c.code g.pc = .ok (.invokevirtual index, 3))
    (hpre : ∀ vm₁, s.WarmedH vm₁ → Pre ⟨T.setVm vm₁, locs, cells, slots⟩ (Value.ref b :: argsL).toArray) :
    (∃ (v : Option Value) (vm₁ : Vm) (B : Pt), s.WarmedH vm₁ ∧ Stand p l e R s m args below meth c B.U B.locs B.cells B.slots ∧ Post ⟨T.setVm vm₁, locs, cells, slots⟩ (Value.ref b :: argsL).toArray v B ∧
      ∀ target, Steps p.tables e below (B.U.setTop { g with pc := g.pc + 3, stack := v.toList ++ rest }) target → Steps p.tables e below (T.setTop g) target) ∨
    (∃ (q : Addr) (vm₁ : Vm) (B : Pt), s.WarmedH vm₁ ∧ Stand p l e R s m args below meth c B.U B.locs B.cells B.slots ∧ PostX ⟨T.setVm vm₁, locs, cells, slots⟩ (Value.ref b :: argsL).toArray q B ∧
      Steps p.tables e below (T.setTop g) ((B.U.setTop { g with stack := rest }).pushFrame (.throwing q))) := by
  obtain ⟨mk, methM, hnamed, hmethM, hstM, habM⟩ := Cond.instanceMethod_spec hinst
  obtain ⟨methM', cM, hmethM', -, -, -, -, -, -, hsigM⟩ := Cond.code_spec hnamed hcode
  cases hmethM.symm.trans hmethM'
  obtain ⟨c2, r2, m2, q1, q2, q3, q4, kP, hkP, hkPi⟩ := Cond.selects_spec hsel
  cases hcls.symm.trans q1
  cases (State.methodFound?_of_named hnamed hy).symm.trans q2
  cases hnamed.symm.trans q3
  have hselP : selectMethod e.platform s.vm cellB.cls mk = .method mk := by rw [Launch.admits_selectMethod X.admits]; exact q4
  obtain ⟨vm₁, X₁, hstep₁⟩ := X.invokevirtual hexec hown hlink hnamed hmethM hstM hkP hkPi hy (a := b) (cell := cellB) hcell
    (fun z h => by rw [h] at hobj; cases hobj) hselP hmethM habM hkP hkPi (g := g) hg (argsL := argsL) (rest := rest) (hlen _ hsigM) hstack hdg
  rcases hK m meth c ⟨T.setVm vm₁, locs, cells, slots⟩ { g with stack := rest } (.invokevirtual index) mk (Value.ref b :: argsL).toArray X₁ hg hsize hdg hW (X₁.named hnamed) (hpre vm₁ X₁.warmed) with ⟨v, B, X', hpost, hsteps⟩ | ⟨q, B, X', hpost, hsteps⟩
  · exact Or.inl ⟨v, vm₁, B, X₁.warmed, X', hpost, fun target h => hstep₁ _ fun acts => by rw [doInvoke_state]; exact hsteps.trans h⟩
  · exact Or.inr ⟨q, vm₁, B, X₁.warmed, X', hpost, hstep₁ _ fun acts => by rw [doInvoke_state]; exact hsteps⟩
theorem vx_callS (X : Stand p l e R s m args below meth c T locs cells slots) (hexec : p.tables.exec = Jvm.exec) {own : String} {index : Nat} {y : MethodName} {bytes : ByteArray} {maxL : Nat} {ret : Option FieldType}
    (hown : s.vm.findClass own = some m.cls) (hlink : (Cond.methodLink own index y).before args s = true) (hstat : (Cond.static y).before args s = true) (hinit : (Cond.initialized y.cls).before args s = true)
    (hcode : (Cond.code y bytes maxL ret).before args s = true) (hy : y.cls ≠ "java/lang/invoke/MethodHandle" ∧ y.cls ≠ "java/lang/invoke/VarHandle")
    {W9 : Nat} {Pre : Pt → Array Value → Prop} {Post : Pt → Array Value → Option Value → Pt → Prop} {PostX : Pt → Array Value → Addr → Pt → Prop} (hK : vx_Back l R p e below s args y 3 W9 Pre Post PostX)
    {g : JFrame} (hg : g.method = m) (hsize : g.locals.size = c.maxLocals) {argsL rest : List Value} (hlen : ∀ sig, parseMethodDescriptor y.desc = some sig → argsL.length = sig.parameters.length)
    (hstack : g.stack = argsL.reverse ++ rest) (hW : 2 * g.monitorRoom + (rest.map fun v => v.category).sum ≤ W9) (hdg : decode c.code g.pc = .ok (.invokestatic index, 3))
    (hpre : ∀ vm₁, s.WarmedH vm₁ → Pre ⟨T.setVm vm₁, locs, cells, slots⟩ argsL.toArray) :
    (∃ (v : Option Value) (vm₁ : Vm) (B : Pt), s.WarmedH vm₁ ∧ Stand p l e R s m args below meth c B.U B.locs B.cells B.slots ∧ Post ⟨T.setVm vm₁, locs, cells, slots⟩ argsL.toArray v B ∧
      ∀ target, Steps p.tables e below (B.U.setTop { g with pc := g.pc + 3, stack := v.toList ++ rest }) target → Steps p.tables e below (T.setTop g) target) ∨
    (∃ (q : Addr) (vm₁ : Vm) (B : Pt), s.WarmedH vm₁ ∧ Stand p l e R s m args below meth c B.U B.locs B.cells B.slots ∧ PostX ⟨T.setVm vm₁, locs, cells, slots⟩ argsL.toArray q B ∧
      Steps p.tables e below (T.setTop g) ((B.U.setTop { g with stack := rest }).pushFrame (.throwing q))) := by
  obtain ⟨mk, hnamed⟩ := Cond.code_named hcode
  obtain ⟨methM, cM, hmethM, -, -, -, -, -, -, hsigM⟩ := Cond.code_spec hnamed hcode
  have hstatic : methM.isStatic = true := Cond.static_spec hnamed hmethM hstat
  obtain ⟨kP, hkP, -⟩ := className_of_methodNamed hnamed
  have hinitP : kP.init = .initialized := Cond.initialized_spec (findClass_of_methodNamed hnamed) hkP hinit
  obtain ⟨vm₁, X₁, hstep₁⟩ := X.invokestatic hexec hown hlink hnamed hmethM hstatic hkP hinitP hy (g := g) hg (argsL := argsL) (rest := rest) (hlen _ hsigM) hstack hdg
  rcases hK m meth c ⟨T.setVm vm₁, locs, cells, slots⟩ { g with stack := rest } (.invokestatic index) mk argsL.toArray X₁ hg hsize hdg hW (X₁.named hnamed) (hpre vm₁ X₁.warmed) with ⟨v, B, X', hpost, hsteps⟩ | ⟨q, B, X', hpost, hsteps⟩
  · exact Or.inl ⟨v, vm₁, B, X₁.warmed, X', hpost, fun target h => hstep₁ _ fun acts => by rw [doInvoke_state]; exact hsteps.trans h⟩
  · exact Or.inr ⟨q, vm₁, B, X₁.warmed, X', hpost, hstep₁ _ fun acts => by rw [doInvoke_state]; exact hsteps⟩
end Calls
theorem vx_cls {s : State} {T : State} {vm₁ : Vm} {E : String} {k : ClassId} (hW : s.WarmedH vm₁) (h : (T.setVm vm₁).vm.findClass E = some k) : s.vm.findClass E = some k := by
  have h1 : vm₁.findClass E = some k := h
  rw [hW.alike.findClass] at h1
  exact h1
/-- the method's frame g, with q thrown over it -/
def vx_W (p : Program) (l : Launch) (e : Env) (R : Room) (s : State) (m : MethodId) (args : Array Value) (below : List Frame) (meth : Method) (c : Code) (H : Heap) (locs : List Loc) (cells slots : Nat) (Q : State → Prop) (g : JFrame) (q : Addr) : Prop :=
  ∀ T : State, T.heap = H → Stand p l e R s m args below meth c T locs cells slots → ∃ t, Steps p.tables e below ((T.setTop g).pushFrame (.throwing q)) t ∧ Q t
def vx_Run (p : Program) (l : Launch) (e : Env) (R : Room) (s : State) (m : MethodId) (args : Array Value) (below : List Frame) (meth : Method) (c : Code) (H : Heap) (locs : List Loc) (cells slots mc ms : Nat) (g : JFrame) (rest : List Value) (Qa : State → Outcome → State → Prop) (XC : String → State → State → Prop) (free : Addr → Prop) : Prop :=
  ∀ T : State, T.heap = H → Stand p l e R s m args below meth c T locs cells slots →
    (∃ (v : Option Value) (st₀ t T' : State) (L : List Loc), st₀.heap = H ∧ Stand p l e R s m args below meth c T' (locs ++ L) (cells + mc) (slots + ms) ∧ (∀ q ∈ L, free q.base) ∧ T'.heap = t.heap ∧ T'.vm = t.vm ∧ Qa st₀ (.returned v) t ∧
      Goes p e below T g T' { g with pc := g.pc + 3, stack := v.toList ++ rest }) ∨
    (∃ (q : Addr) (st₀ t T' : State) (L : List Loc) (E : String) (ce : Cell), st₀.heap = H ∧ Stand p l e R s m args below meth c T' (locs ++ L) (cells + mc) (slots + ms) ∧ (∀ z ∈ L, free z.base) ∧ T'.heap = t.heap ∧ T'.vm = t.vm ∧ XC E st₀ t ∧ t.heap[q]? = some ce ∧ ce.vm = .none ∧ s.vm.findClass E = some ce.cls ∧
      Steps p.tables e below (T.setTop g) ((T'.setTop { g with stack := rest }).pushFrame (.throwing q)))
def vx_X {S : Type} (px : S → Prop) (B : String → S → State → Prop) (A : Nat → Prop) : String → State → State → Prop := fun E st t => ∃ u : S, px u ∧ B E u t ∧ va_F A st t
section Runs
variable {p : Program} {l : Launch} {e : Env} {R : Room} {s : State} {m : MethodId} {args : Array Value} {below : List Frame} {meth : Method} {c : Code} {H : Heap} {locs : List Loc} {cells slots : Nat}
variable {y : MethodName} {bytes cc : ByteArray} {maxL nL mc ms n index : Nat} {ret : Option FieldType} {ws : List Cond} {rm : Room} {Pc : Array Value → State → Prop} {Qc : Array Value → State → Outcome → State → Prop} {XC : String → State → State → Prop} {free : Addr → Prop} {Ts : List Cond} {own C : String} {b : Addr} {As rest : List Value} {g : JFrame}
theorem vx_callBack (cb : CallB R s args own index y bytes maxL ret ws rm mc ms n) (hM : vx_Met l y ws rm Pc Qc XC mc ms free) (hbl : FrameBlind Pc) : vx_Back l R p e below s args y 3 8 (PreOf R mc ms Pc) (PostOf Qc mc ms free) (vx_Post XC mc ms free) := by
  obtain ⟨hrc, hrs, hfr, hlo, hws, hcw, -, hini, -⟩ := cb
  exact vx_back (bytes := bytes) (maxL := maxL) (ret := ret) hM hbl hrc hrs hfr hlo hws hcw (fun a' U hW => word_at hW (Or.inl (by first | rfl | simp [Cond.onTables, Cond.keeps, Cond.steady])) hini)
theorem vx_runV (S : CallFix p m c cc nL s args Ts own) (hM : vx_Met l y ws rm Pc Qc XC mc ms free) (cw : CallW R s args own C index y bytes maxL ret ws rm mc ms n) (hp : PreV s H C b Pc As)
    (hg : g.method = m) (hn : As.length = n) (hsize : g.locals.size = nL) (hstack : g.stack = As.reverse ++ .ref b :: rest) (hW : 2 * g.monitorRoom + (rest.map fun v => v.category).sum ≤ 8) (hdg : decode cc g.pc = .ok (.invokevirtual index, 3)) (hf : cells + mc ≤ R.cells ∧ slots + ms ≤ R.slots) :
    vx_Run p l e R s m args below meth c H locs cells slots mc ms g rest (Qc (Value.ref b :: As).toArray) XC free := by
  have hK : vx_Back l R p e below s args y 3 8 (PreOf R mc ms Pc) (PostOf Qc mc ms free) (vx_Post XC mc ms free) := vx_callBack cw.1 hM hp.1
  obtain ⟨⟨-, -, -, -, -, -, hcode, -, hy, hlen, hl⟩, hin, hse⟩ := cw
  obtain ⟨hx, hb, hml, ho, -⟩ := S
  obtain ⟨-, ⟨cellB, hcB, hoB, hclB⟩, hPc⟩ := hp
  intro T hT X
  rcases vx_callV X hx (C := C) (bytes := bytes) (maxL := maxL) (ret := ret) ho hl hin hse hcode hy hK (by rw [hT]; exact hcB) hoB hclB hg (hsize.trans hml.symm) (argsL := As) (rest := rest) (fun sig h => hn.trans (hlen sig h)) hstack hW (by rw [hb]; exact hdg)
    (fun vm₁ hW₁ => ⟨hf.1, hf.2, hPc (T.setVm vm₁) hT hW₁⟩) with ⟨v, vm₁, ⟨U', l2, c2, s2⟩, hW₁, X', ⟨g', mk, t, L, e1, e2, hq, h1, hL, h2, h3⟩, st⟩ | ⟨q, vm₁, ⟨U', l2, c2, s2⟩, hW₁, X', ⟨g', mk, t, L, E, ce, e1, e2, hq, hce, hcv, hcl, h1, hL, h2, h3⟩, st⟩
  · dsimp only [Pt.U, Pt.locs, Pt.cells, Pt.slots] at X' e1 e2 h1 h2 h3 st
    subst h1; subst h2; subst h3
    exact Or.inl ⟨v, (T.setVm vm₁).calling g' mk (Value.ref b :: As).toArray, t, U', L, hT, X', hL, e1, e2, hq, st⟩
  · dsimp only [Pt.U, Pt.locs, Pt.cells, Pt.slots] at X' e1 e2 h1 h2 h3 st hcl
    subst h1; subst h2; subst h3
    exact Or.inr ⟨q, (T.setVm vm₁).calling g' mk (Value.ref b :: As).toArray, t, U', L, E, ce, hT, X', hL, e1, e2, hq, hce, hcv, vx_cls hW₁ hcl, st⟩
theorem vx_runS (S : CallFix p m c cc nL s args Ts own) (hM : vx_Met l y ws rm Pc Qc XC mc ms free) (cw : CallB R s args own index y bytes maxL ret ws rm mc ms n ∧ (Cond.static y).before args s = true) (hp : PreS s H Pc As)
    (hg : g.method = m) (hn : As.length = n) (hsize : g.locals.size = nL) (hstack : g.stack = As.reverse ++ rest) (hW : 2 * g.monitorRoom + (rest.map fun v => v.category).sum ≤ 8) (hdg : decode cc g.pc = .ok (.invokestatic index, 3)) (hf : cells + mc ≤ R.cells ∧ slots + ms ≤ R.slots) :
    vx_Run p l e R s m args below meth c H locs cells slots mc ms g rest (Qc As.toArray) XC free := by
  have hK : vx_Back l R p e below s args y 3 8 (PreOf R mc ms Pc) (PostOf Qc mc ms free) (vx_Post XC mc ms free) := vx_callBack cw.1 hM hp.1
  obtain ⟨⟨-, -, -, -, -, -, hcode, hini, hy, hlen, hl⟩, hstt⟩ := cw
  obtain ⟨hx, hb, hml, ho, -⟩ := S
  intro T hT X
  rcases vx_callS X hx (bytes := bytes) (maxL := maxL) (ret := ret) ho hl hstt hini hcode hy hK hg (hsize.trans hml.symm) (argsL := As) (rest := rest) (fun sig h => hn.trans (hlen sig h)) hstack hW (by rw [hb]; exact hdg)
    (fun vm₁ hW₁ => ⟨hf.1, hf.2, hp.2 (T.setVm vm₁) hT hW₁⟩) with ⟨v, vm₁, ⟨U', l2, c2, s2⟩, hW₁, X', ⟨g', mk, t, L, e1, e2, hq, h1, hL, h2, h3⟩, st⟩ | ⟨q, vm₁, ⟨U', l2, c2, s2⟩, hW₁, X', ⟨g', mk, t, L, E, ce, e1, e2, hq, hce, hcv, hcl, h1, hL, h2, h3⟩, st⟩
  · dsimp only [Pt.U, Pt.locs, Pt.cells, Pt.slots] at X' e1 e2 h1 h2 h3 st
    subst h1; subst h2; subst h3
    exact Or.inl ⟨v, (T.setVm vm₁).calling g' mk As.toArray, t, U', L, hT, X', hL, e1, e2, hq, st⟩
  · dsimp only [Pt.U, Pt.locs, Pt.cells, Pt.slots] at X' e1 e2 h1 h2 h3 st hcl
    subst h1; subst h2; subst h3
    exact Or.inr ⟨q, (T.setVm vm₁).calling g' mk As.toArray, t, U', L, E, ce, hT, X', hL, e1, e2, hq, hce, hcv, vx_cls hW₁ hcl, st⟩
end Runs
section Rows
variable {p : Program} {l : Launch} {e : Env} {R : Room} {s : State} {m : MethodId} {args : Array Value} {below : List Frame} {meth : Method} {c : Code} {H : Heap} {locs : List Loc} {cells slots : Nat} {Q : State → Prop}
variable {mc ms : Nat} {free : Addr → Prop} {A0 A1 : Nat → Prop} {H0 : Heap} {a : Array Value} {pc : Nat} {ls : Array Slot} {st0 rest : List Value}
theorem vx_keep {st₀ t T' : State} {L : List Loc} (h0 : st₀.heap = H) (e1 : T'.heap = t.heap) (hS : va_S A0 H0 H locs) (hA : ∀ q, q < H.size → A1 q → A0 q) (hf : ∀ q, free q → A0 q) (hL : ∀ q ∈ L, free q.base) (hF : va_F A1 st₀ t) :
    H.size ≤ T'.heap.size ∧ (∀ q : Nat, q < H.size → ¬ A1 q → T'.heap[q]? = H[q]?) ∧ va_S A0 H0 T'.heap (locs ++ L) := by
  obtain ⟨hz, hk⟩ := hF
  rw [h0] at hz hk
  exact ⟨by rw [e1]; exact hz, fun q h1 h2 => by rw [e1]; exact hk q h1 h2,
    ⟨Nat.le_trans hS.1 (by rw [e1]; exact hz), fun q h1 h2 => by rw [e1, hk q (Nat.lt_of_lt_of_le h1 hS.1) (fun z => h2 (hA q (Nat.lt_of_lt_of_le h1 hS.1) z))]; exact hS.2.1 q h1 h2, fun q hq => by
      rcases List.mem_append.mp hq with h | h
      · exact hS.2.2 q h
      · exact hf _ (hL q h)⟩⟩
theorem vx_calli {S SX : Type} {post : Int32 → S → Prop} {px : SX → Prop} {B : S → State → Prop} {BX : String → SX → State → Prop} {AX : Nat → Prop} (hr : vx_Run p l e R s m args below meth c H locs cells slots mc ms (F0 m pc ls st0) rest (va_Qi post B A1 a) (vx_X px BX AX) free) (hS : va_S A0 H0 H locs) (hA : ∀ q, q < H.size → A1 q → A0 q) (hf : ∀ q, free q → A0 q) (hAX : ∀ q, q < H.size → AX q → A0 q)
    (kx : ∀ (E : String) (ce : Cell) (q9 : Addr) (u : SX) (t : State) (H1 : Heap) (locs1 : List Loc), t.heap = H1 → s.vm.Alike t.vm → px u → BX E u t → H.size ≤ H1.size → (∀ q : Nat, q < H.size → ¬ AX q → H1[q]? = H[q]?) → va_S A0 H0 H1 locs1 → H1[q9]? = some ce → ce.vm = .none → s.vm.findClass E = some ce.cls → vx_W p l e R s m args below meth c H1 locs1 (cells + mc) (slots + ms) Q (F0 m pc ls rest) q9)
    (kk : ∀ (r : Int32) (u : S) (t : State) (H1 : Heap) (locs1 : List Loc), t.heap = H1 → s.vm.Alike t.vm → post r u → B u t → H.size ≤ H1.size → (∀ q : Nat, q < H.size → ¬ A1 q → H1[q]? = H[q]?) → va_S A0 H0 H1 locs1 → W p l e R s m args below meth c H1 locs1 (cells + mc) (slots + ms) Q (F0 m (pc + 3) ls (.int r :: rest))) : W p l e R s m args below meth c H locs cells slots Q (F0 m pc ls st0) := by
  intro T hT X
  rcases hr T hT X with ⟨v, st₀, t, T', L, h0, X', hL, e1, e2, ⟨⟨r, u, hv, hp, hb⟩, hF⟩, st⟩ | ⟨q, st₀, t, T', L, E, ce, h0, X', hL, e1, e2, ⟨u, hp, hb, hF⟩, hce, hcv, hcl, st⟩
  · cases hv
    obtain ⟨k1, k2, k3⟩ := vx_keep h0 e1 hS hA hf hL hF
    obtain ⟨t2, a1, b1⟩ := kk r u t T'.heap (locs ++ L) e1.symm (by rw [← e2]; exact X'.warmed.alike) hp hb k1 k2 k3 T' rfl X'
    exact ⟨t2, st t2 a1, b1⟩
  · obtain ⟨k1, k2, k3⟩ := vx_keep h0 e1 hS hAX hf hL hF
    obtain ⟨t2, a1, b1⟩ := kx E ce q u t T'.heap (locs ++ L) e1.symm (by rw [← e2]; exact X'.warmed.alike) hp hb k1 k2 k3 (by rw [e1]; exact hce) hcv hcl T' rfl X'
    exact ⟨t2, st.trans a1, b1⟩
theorem vx_calll {S SX : Type} {post : Int64 → S → Prop} {px : SX → Prop} {B : S → State → Prop} {BX : String → SX → State → Prop} {AX : Nat → Prop} (hr : vx_Run p l e R s m args below meth c H locs cells slots mc ms (F0 m pc ls st0) rest (va_Ql post B A1 a) (vx_X px BX AX) free) (hS : va_S A0 H0 H locs) (hA : ∀ q, q < H.size → A1 q → A0 q) (hf : ∀ q, free q → A0 q) (hAX : ∀ q, q < H.size → AX q → A0 q)
    (kx : ∀ (E : String) (ce : Cell) (q9 : Addr) (u : SX) (t : State) (H1 : Heap) (locs1 : List Loc), t.heap = H1 → s.vm.Alike t.vm → px u → BX E u t → H.size ≤ H1.size → (∀ q : Nat, q < H.size → ¬ AX q → H1[q]? = H[q]?) → va_S A0 H0 H1 locs1 → H1[q9]? = some ce → ce.vm = .none → s.vm.findClass E = some ce.cls → vx_W p l e R s m args below meth c H1 locs1 (cells + mc) (slots + ms) Q (F0 m pc ls rest) q9)
    (kk : ∀ (r : Int64) (u : S) (t : State) (H1 : Heap) (locs1 : List Loc), t.heap = H1 → s.vm.Alike t.vm → post r u → B u t → H.size ≤ H1.size → (∀ q : Nat, q < H.size → ¬ A1 q → H1[q]? = H[q]?) → va_S A0 H0 H1 locs1 → W p l e R s m args below meth c H1 locs1 (cells + mc) (slots + ms) Q (F0 m (pc + 3) ls (.long r :: rest))) : W p l e R s m args below meth c H locs cells slots Q (F0 m pc ls st0) := by
  intro T hT X
  rcases hr T hT X with ⟨v, st₀, t, T', L, h0, X', hL, e1, e2, ⟨⟨r, u, hv, hp, hb⟩, hF⟩, st⟩ | ⟨q, st₀, t, T', L, E, ce, h0, X', hL, e1, e2, ⟨u, hp, hb, hF⟩, hce, hcv, hcl, st⟩
  · cases hv
    obtain ⟨k1, k2, k3⟩ := vx_keep h0 e1 hS hA hf hL hF
    obtain ⟨t2, a1, b1⟩ := kk r u t T'.heap (locs ++ L) e1.symm (by rw [← e2]; exact X'.warmed.alike) hp hb k1 k2 k3 T' rfl X'
    exact ⟨t2, st t2 a1, b1⟩
  · obtain ⟨k1, k2, k3⟩ := vx_keep h0 e1 hS hAX hf hL hF
    obtain ⟨t2, a1, b1⟩ := kx E ce q u t T'.heap (locs ++ L) e1.symm (by rw [← e2]; exact X'.warmed.alike) hp hb k1 k2 k3 (by rw [e1]; exact hce) hcv hcl T' rfl X'
    exact ⟨t2, st.trans a1, b1⟩
theorem vx_callf {S SX : Type} {post : UInt32 → S → Prop} {px : SX → Prop} {B : S → State → Prop} {BX : String → SX → State → Prop} {AX : Nat → Prop} (hr : vx_Run p l e R s m args below meth c H locs cells slots mc ms (F0 m pc ls st0) rest (va_Qf post B A1 a) (vx_X px BX AX) free) (hS : va_S A0 H0 H locs) (hA : ∀ q, q < H.size → A1 q → A0 q) (hf : ∀ q, free q → A0 q) (hAX : ∀ q, q < H.size → AX q → A0 q)
    (kx : ∀ (E : String) (ce : Cell) (q9 : Addr) (u : SX) (t : State) (H1 : Heap) (locs1 : List Loc), t.heap = H1 → s.vm.Alike t.vm → px u → BX E u t → H.size ≤ H1.size → (∀ q : Nat, q < H.size → ¬ AX q → H1[q]? = H[q]?) → va_S A0 H0 H1 locs1 → H1[q9]? = some ce → ce.vm = .none → s.vm.findClass E = some ce.cls → vx_W p l e R s m args below meth c H1 locs1 (cells + mc) (slots + ms) Q (F0 m pc ls rest) q9)
    (kk : ∀ (r : UInt32) (u : S) (t : State) (H1 : Heap) (locs1 : List Loc), t.heap = H1 → s.vm.Alike t.vm → post r u → B u t → H.size ≤ H1.size → (∀ q : Nat, q < H.size → ¬ A1 q → H1[q]? = H[q]?) → va_S A0 H0 H1 locs1 → W p l e R s m args below meth c H1 locs1 (cells + mc) (slots + ms) Q (F0 m (pc + 3) ls (.float r :: rest))) : W p l e R s m args below meth c H locs cells slots Q (F0 m pc ls st0) := by
  intro T hT X
  rcases hr T hT X with ⟨v, st₀, t, T', L, h0, X', hL, e1, e2, ⟨⟨r, u, hv, hp, hb⟩, hF⟩, st⟩ | ⟨q, st₀, t, T', L, E, ce, h0, X', hL, e1, e2, ⟨u, hp, hb, hF⟩, hce, hcv, hcl, st⟩
  · cases hv
    obtain ⟨k1, k2, k3⟩ := vx_keep h0 e1 hS hA hf hL hF
    obtain ⟨t2, a1, b1⟩ := kk r u t T'.heap (locs ++ L) e1.symm (by rw [← e2]; exact X'.warmed.alike) hp hb k1 k2 k3 T' rfl X'
    exact ⟨t2, st t2 a1, b1⟩
  · obtain ⟨k1, k2, k3⟩ := vx_keep h0 e1 hS hAX hf hL hF
    obtain ⟨t2, a1, b1⟩ := kx E ce q u t T'.heap (locs ++ L) e1.symm (by rw [← e2]; exact X'.warmed.alike) hp hb k1 k2 k3 (by rw [e1]; exact hce) hcv hcl T' rfl X'
    exact ⟨t2, st.trans a1, b1⟩
theorem vx_calld {S SX : Type} {post : UInt64 → S → Prop} {px : SX → Prop} {B : S → State → Prop} {BX : String → SX → State → Prop} {AX : Nat → Prop} (hr : vx_Run p l e R s m args below meth c H locs cells slots mc ms (F0 m pc ls st0) rest (va_Qd post B A1 a) (vx_X px BX AX) free) (hS : va_S A0 H0 H locs) (hA : ∀ q, q < H.size → A1 q → A0 q) (hf : ∀ q, free q → A0 q) (hAX : ∀ q, q < H.size → AX q → A0 q)
    (kx : ∀ (E : String) (ce : Cell) (q9 : Addr) (u : SX) (t : State) (H1 : Heap) (locs1 : List Loc), t.heap = H1 → s.vm.Alike t.vm → px u → BX E u t → H.size ≤ H1.size → (∀ q : Nat, q < H.size → ¬ AX q → H1[q]? = H[q]?) → va_S A0 H0 H1 locs1 → H1[q9]? = some ce → ce.vm = .none → s.vm.findClass E = some ce.cls → vx_W p l e R s m args below meth c H1 locs1 (cells + mc) (slots + ms) Q (F0 m pc ls rest) q9)
    (kk : ∀ (r : UInt64) (u : S) (t : State) (H1 : Heap) (locs1 : List Loc), t.heap = H1 → s.vm.Alike t.vm → post r u → B u t → H.size ≤ H1.size → (∀ q : Nat, q < H.size → ¬ A1 q → H1[q]? = H[q]?) → va_S A0 H0 H1 locs1 → W p l e R s m args below meth c H1 locs1 (cells + mc) (slots + ms) Q (F0 m (pc + 3) ls (.double r :: rest))) : W p l e R s m args below meth c H locs cells slots Q (F0 m pc ls st0) := by
  intro T hT X
  rcases hr T hT X with ⟨v, st₀, t, T', L, h0, X', hL, e1, e2, ⟨⟨r, u, hv, hp, hb⟩, hF⟩, st⟩ | ⟨q, st₀, t, T', L, E, ce, h0, X', hL, e1, e2, ⟨u, hp, hb, hF⟩, hce, hcv, hcl, st⟩
  · cases hv
    obtain ⟨k1, k2, k3⟩ := vx_keep h0 e1 hS hA hf hL hF
    obtain ⟨t2, a1, b1⟩ := kk r u t T'.heap (locs ++ L) e1.symm (by rw [← e2]; exact X'.warmed.alike) hp hb k1 k2 k3 T' rfl X'
    exact ⟨t2, st t2 a1, b1⟩
  · obtain ⟨k1, k2, k3⟩ := vx_keep h0 e1 hS hAX hf hL hF
    obtain ⟨t2, a1, b1⟩ := kx E ce q u t T'.heap (locs ++ L) e1.symm (by rw [← e2]; exact X'.warmed.alike) hp hb k1 k2 k3 (by rw [e1]; exact hce) hcv hcl T' rfl X'
    exact ⟨t2, st.trans a1, b1⟩
theorem vx_callv {S SX : Type} {post : S → Prop} {px : SX → Prop} {B : S → State → Prop} {BX : String → SX → State → Prop} {AX : Nat → Prop} (hr : vx_Run p l e R s m args below meth c H locs cells slots mc ms (F0 m pc ls st0) rest (va_Qv post B A1 a) (vx_X px BX AX) free) (hS : va_S A0 H0 H locs) (hA : ∀ q, q < H.size → A1 q → A0 q) (hf : ∀ q, free q → A0 q) (hAX : ∀ q, q < H.size → AX q → A0 q)
    (kx : ∀ (E : String) (ce : Cell) (q9 : Addr) (u : SX) (t : State) (H1 : Heap) (locs1 : List Loc), t.heap = H1 → s.vm.Alike t.vm → px u → BX E u t → H.size ≤ H1.size → (∀ q : Nat, q < H.size → ¬ AX q → H1[q]? = H[q]?) → va_S A0 H0 H1 locs1 → H1[q9]? = some ce → ce.vm = .none → s.vm.findClass E = some ce.cls → vx_W p l e R s m args below meth c H1 locs1 (cells + mc) (slots + ms) Q (F0 m pc ls rest) q9)
    (kk : ∀ (u : S) (t : State) (H1 : Heap) (locs1 : List Loc), t.heap = H1 → s.vm.Alike t.vm → post u → B u t → H.size ≤ H1.size → (∀ q : Nat, q < H.size → ¬ A1 q → H1[q]? = H[q]?) → va_S A0 H0 H1 locs1 → W p l e R s m args below meth c H1 locs1 (cells + mc) (slots + ms) Q (F0 m (pc + 3) ls (rest))) : W p l e R s m args below meth c H locs cells slots Q (F0 m pc ls st0) := by
  intro T hT X
  rcases hr T hT X with ⟨v, st₀, t, T', L, h0, X', hL, e1, e2, ⟨⟨u, hv, hp, hb⟩, hF⟩, st⟩ | ⟨q, st₀, t, T', L, E, ce, h0, X', hL, e1, e2, ⟨u, hp, hb, hF⟩, hce, hcv, hcl, st⟩
  · cases hv
    obtain ⟨k1, k2, k3⟩ := vx_keep h0 e1 hS hA hf hL hF
    obtain ⟨t2, a1, b1⟩ := kk u t T'.heap (locs ++ L) e1.symm (by rw [← e2]; exact X'.warmed.alike) hp hb k1 k2 k3 T' rfl X'
    exact ⟨t2, st t2 a1, b1⟩
  · obtain ⟨k1, k2, k3⟩ := vx_keep h0 e1 hS hAX hf hL hF
    obtain ⟨t2, a1, b1⟩ := kx E ce q u t T'.heap (locs ++ L) e1.symm (by rw [← e2]; exact X'.warmed.alike) hp hb k1 k2 k3 (by rw [e1]; exact hce) hcv hcl T' rfl X'
    exact ⟨t2, st.trans a1, b1⟩
/-- caught by the row x of this method's table; the rows ahead don't take it -/
theorem vx_catch {own name : String} {E : String} {ce : Cell} {q : Addr} (hown : s.vm.findClass own = some m.cls) (pre : List ExceptionTableEntry) (x : ExceptionTableEntry) (suf : List ExceptionTableEntry) (hsplit : c.exceptionTable.toList = pre ++ x :: suf)
    (hpass : ∀ z ∈ pre, covers z pc = false ∨ (z.catchType ≠ 0 ∧ ∃ nm : String, (Cond.classLink own z.catchType nm).before args s = true ∧ va_Nc E nm s)) (hx : covers x pc = true) (h0 : x.catchType ≠ 0)
    (hlink : (Cond.classLink own x.catchType name).before args s = true) (hcast : (Cond.castable E name).before args s = true) (hcell : H[q]? = some ce) (hv : ce.vm = .none) (hcl : s.vm.findClass E = some ce.cls)
    (kk : W p l e R s m args below meth c H locs cells slots Q (F0 m x.handlerPc ls [.ref q])) : vx_W p l e R s m args below meth c H locs cells slots Q (F0 m pc ls rest) q :=
  fun T hT X => vy_catch hown pre x suf hsplit hpass hx h0 hlink hcast hcell hv hcl kk T hT X
end Rows
section Ends
variable {p : Program} {l : Launch} {e : Env} {R : Room} {s : State} {m : MethodId} {args : Array Value} {below : List Frame} {meth : Method} {c : Code} {H : Heap} {locs : List Loc} {cells slots : Nat} {Q : State → Prop}
variable {mc ms : Nat} {free : Addr → Prop} {A0 A1 : Nat → Prop} {H0 : Heap} {a : Array Value} {ls : Array Slot} {st0 rest : List Value}
variable {Qc : Array Value → State → Outcome → State → Prop} {XC : String → State → State → Prop}
/-- what a body that may throw owes at its end -/
def vx_MQ (below : List Frame) (Qc : Array Value → State → Outcome → State → Prop) (XC : String → State → State → Prop) (a : Array Value) (s : State) (mc ms : Nat) (free : Addr → Prop) : State → Prop := fun t =>
  ∃ o, t.status = .running ∧ Ended t below o ∧ vx_Q Qc XC mc ms free a s o t
theorem vx_ret {g : JFrame} {mc ms : Nat} (k : W p l e R s m args below meth c H locs cells slots (MQ below Qc args s mc ms free) g) : W p l e R s m args below meth c H locs cells slots (vx_MQ below Qc XC args s mc ms free) g := by
  intro T hT X
  obtain ⟨t, a1, o, b1, b2, b3, b4⟩ := k T hT X
  exact ⟨t, a1, o, b1, b2, Or.inl ⟨b3, b4⟩⟩
/-- not caught here: it goes on to the caller -/
theorem vx_widen {g : JFrame} {q : Addr} {k n : Nat} (h1 : cells ≤ k) (h2 : slots ≤ n) (kk : vx_W p l e R s m args below meth c H locs k n Q g q) : vx_W p l e R s m args below meth c H locs cells slots Q g q := fun T hT X => kk T hT (stand_widen X h1 h2)
theorem vx_out {pc : Nat} {E : String} {ce : Cell} {q : Addr} {mc ms : Nat} (hout : ∀ x ∈ c.exceptionTable.toList, covers x pc = false) (hlocks : meth.locks = false) (hcell : H[q]? = some ce) (hv : ce.vm = .none) (hcl : s.vm.findClass E = some ce.cls)
    (hx : ∀ t : State, t.heap = H → s.vm.Alike t.vm → XC E s t) (hf : ∀ z ∈ locs, free z.base) (hc : cells ≤ mc) (hs : slots ≤ ms) :
    vx_W p l e R s m args below meth c H locs cells slots (vx_MQ below Qc XC args s mc ms free) (F0 m pc ls rest) q := by
  intro T hT X
  obtain ⟨st1, hrun, hend, hW, hsm⟩ := X.leaveThrown q (g := F0 m pc ls rest) rfl rfl rfl hout hlocks
  have hcell9 : (T.setFrames (.throwing q :: below)).heap[q]? = some ce := by
    show T.heap[q]? = some ce
    rw [hT]; exact hcell
  exact ⟨_, st1, .threw q, hrun, hend, Or.inr ⟨q, rfl, E, ce, locs, hx _ hT hW.alike, hcell9, hv, hcl, hW, hsm.mono hc hs, hf⟩⟩
theorem vx_frame {U : State} {k n : Nat} (h : s.sameButNew ({ U with vm := s.vm } : State) locs k n) : s.heap.size ≤ U.heap.size ∧ ∀ q : Nat, q < s.heap.size → (∀ z ∈ locs, z.base ≠ q) → U.heap[q]? = s.heap[q]? := by
  obtain ⟨-, h2, -, -, -, h6⟩ := h
  refine ⟨h2, fun q hq hz => ?_⟩
  obtain ⟨c9, e1, e2, e3, e4⟩ := h6 q _ (Array.getElem?_eq_getElem hq)
  have hs : c9.slots = (s.heap[q]).slots := Array.ext_getElem? fun i => e4 i fun hm => hz _ hm rfl
  have h9 : c9 = s.heap[q] := by
    rw [hs] at e2
    exact e2
  have e5 : U.heap[q]? = some c9 := e1
  rw [e5, h9, Array.getElem?_eq_getElem hq]
/-- the words of a throw but the four that speak of the heap -/
def vx_no (w : Cond) : Bool := decide (w ≠ .isRef (.static Bundle.tN "UNASSIGNED_STACK" Bundle.steD)) && decide (w ≠ .isRef (.static Bundle.tN "SUPPRESSED_SENTINEL" Bundle.listD)) && decide (w ≠ .laysStatic Bundle.tN "UNASSIGNED_STACK" Bundle.steD) && decide (w ≠ .laysStatic Bundle.tN "SUPPRESSED_SENTINEL" Bundle.listD)
def vx_at0 (own : String) (ic : Nat) (X : String) (names : List String) : List Cond := (Bundle.ownAtoms0 own ic X names).filter vx_no
def vx_atS (own : String) (ic : Nat) (X : String) (names : List String) : List Cond := (Bundle.ownAtoms own ic X names).filter vx_no
/-- a word that the tables alone decide, or a good one -/
def vx_ot (w : Cond) : Bool := w.onTables || goodWord w
theorem vx_ot_at {args a' : Array Value} {s U : State} {w : Cond} (hW : s.WarmedH U.vm) (hvm : s.vm = U.vm) (hg : vx_ot w = true) (h : w.before args s = true) : w.before a' U = true := by
  simp only [vx_ot, Bool.or_eq_true] at hg
  rcases hg with hg | hg
  · exact va_tabs hg hvm h
  · exact word_at hW (good_of_word hg) h
/-- a list's words: the good ones out of the method's own list, the others by premises of their own -/
theorem vx_hat {args : Array Value} {s : State} {L B : List Cond} (h1 : ∀ w ∈ L.filter goodWord, w.before args s = true) (h2 : ∀ w ∈ L.filter (fun w => !goodWord w), w ∈ B) (h3 : ∀ w ∈ B, w.before args s = true) : ∀ w ∈ L, w.before args s = true := by
  intro w hw
  by_cases g : goodWord w = true
  · exact h1 w (List.mem_filter.mpr ⟨hw, g⟩)
  · refine h3 w (h2 w (List.mem_filter.mpr ⟨hw, ?_⟩))
    show (!goodWord w) = true
    cases hgw : goodWord w
    · rfl
    · exact absurd hgw g
theorem vx_c {args : Array Value} {s : State} {w : Cond} {B : List Cond} (h : w.before args s = true) (t : ∀ w ∈ B, w.before args s = true) : ∀ w' ∈ w :: B, w'.before args s = true := fun w' h' => (List.mem_cons.mp h').elim (fun e => by rw [e]; exact h) (t w')
theorem vx_n {args : Array Value} {s : State} : ∀ w ∈ ([] : List Cond), w.before args s = true := fun _ h => nomatch h
theorem vx_own {args : Array Value} {s : State} {L : List Cond} (h1 : ∀ w ∈ L.filter vx_no, w.before args s = true)
    (hU : (Cond.isRef (.static Bundle.tN "UNASSIGNED_STACK" Bundle.steD)).before args s = true) (hN : (Cond.isRef (.static Bundle.tN "SUPPRESSED_SENTINEL" Bundle.listD)).before args s = true)
    (lU : (Cond.laysStatic Bundle.tN "UNASSIGNED_STACK" Bundle.steD).before args s = true) (lN : (Cond.laysStatic Bundle.tN "SUPPRESSED_SENTINEL" Bundle.listD).before args s = true) : ∀ w ∈ L, w.before args s = true := by
  intro w hw
  by_cases e1 : w = .isRef (.static Bundle.tN "UNASSIGNED_STACK" Bundle.steD)
  · rw [e1]; exact hU
  · by_cases e2 : w = .isRef (.static Bundle.tN "SUPPRESSED_SENTINEL" Bundle.listD)
    · rw [e2]; exact hN
    · by_cases e3 : w = .laysStatic Bundle.tN "UNASSIGNED_STACK" Bundle.steD
      · rw [e3]; exact lU
      · by_cases e4 : w = .laysStatic Bundle.tN "SUPPRESSED_SENTINEL" Bundle.listD
        · rw [e4]; exact lN
        · exact h1 w (List.mem_filter.mpr ⟨hw, by unfold vx_no; rw [decide_eq_true e1, decide_eq_true e2, decide_eq_true e3, decide_eq_true e4]; rfl⟩)
/-- where a static field lies, its class's statics cell in H -/
def vx_L (C n d : String) (A : Nat → Prop) (U : State) (H : Heap) : Prop := ∃ (c : ClassId) (k : Class) (i : Nat) (f : Field) (a : Nat) (cell : Cell), U.vm.findClass C = some c ∧ U.fieldFound? C n d = some (c, k, i, f) ∧ f.isStatic = true ∧ k.statics = some a ∧ H[a]? = some cell ∧ cell.vm.isStatics = true ∧ cell.cls = c ∧ f.slot < cell.slots.size ∧ k.staticTypes[f.slot]? = some f.type ∧ ¬ A a
theorem vx_L.moved {C n d : String} {A : Nat → Prop} {u U : State} {H : Heap} (hvm : u.vm.Alike U.vm) (h : vx_L C n d A u H) : vx_L C n d A U H := by
  obtain ⟨c, k, i, f, a, cell, h1, h2, h3, h4, h5, h6, h7, h8, h9, h10⟩ := h
  obtain ⟨k', hi', he⟩ := State.fieldFound?_setVm hvm h2
  exact ⟨c, k', i, f, a, cell, by rw [hvm.findClass]; exact h1, hi', h3, by rw [he]; exact h4, h5, h6, h7, h8, by rw [he]; exact h9, h10⟩
theorem vx_L.kept {C n d : String} {A : Nat → Prop} {U : State} {H H1 : Heap} (h : vx_L C n d A U H) (hq : ∀ a : Nat, a < H.size → ¬ A a → H1[a]? = H[a]?) : vx_L C n d A U H1 := by
  obtain ⟨c, k, i, f, a, cell, h1, h2, h3, h4, h5, h6, h7, h8, h9, h10⟩ := h
  exact ⟨c, k, i, f, a, cell, h1, h2, h3, h4, by rw [hq a (Array.getElem?_eq_some_iff.mp h5).1 h10]; exact h5, h6, h7, h8, h9, h10⟩
theorem vx_L.narrow {C n d : String} {A B : Nat → Prop} {U : State} {H : Heap} (h : vx_L C n d A U H) (hAB : ∀ q, B q → A q) : vx_L C n d B U H := by
  obtain ⟨c, k, i, f, a, cell, h1, h2, h3, h4, h5, h6, h7, h8, h9, h10⟩ := h
  exact ⟨c, k, i, f, a, cell, h1, h2, h3, h4, h5, h6, h7, h8, h9, fun z => h10 (hAB _ z)⟩
theorem vx_L.word {C n d : String} {A : Nat → Prop} {s : State} {args : Array Value} (h : vx_L C n d A s s.heap) : (Cond.laysStatic C n d).before args s = true := by
  obtain ⟨c, k, i, f, a, cell, h1, h2, h3, h4, h5, h6, h7, h8, h9, -⟩ := h
  show (Cond.laysStatic C n d).holds args s none s [] = true
  exact Cond.laysStatic_of h1 h2 h3 h4 h5 h6 h7 h8 h9
/-- .. and what it holds: null or some reference -/
def vx_Zq (C n d : String) (A : Nat → Prop) (U : State) (H : Heap) : Prop := va_Zq C n d A U H ∧ vx_L C n d A U H
theorem vx_Zq.moved {C n d : String} {A : Nat → Prop} {u U : State} {H : Heap} (hvm : u.vm.Alike U.vm) (h : vx_Zq C n d A u H) : vx_Zq C n d A U H := ⟨va_Zq.moved hvm h.1, vx_L.moved hvm h.2⟩
theorem vx_Zq.kept {C n d : String} {A : Nat → Prop} {U : State} {H H1 : Heap} (h : vx_Zq C n d A U H) (hq : ∀ a : Nat, a < H.size → ¬ A a → H1[a]? = H[a]?) : vx_Zq C n d A U H1 := ⟨va_Zq.kept h.1 hq, vx_L.kept h.2 hq⟩
theorem vx_Zq.narrow {C n d : String} {A B : Nat → Prop} {U : State} {H : Heap} (h : vx_Zq C n d A U H) (hAB : ∀ q, B q → A q) : vx_Zq C n d B U H := ⟨va_Zq.narrow h.1 hAB, vx_L.narrow h.2 hAB⟩
theorem vx_Zqof {args : Array Value} {s : State} {C n d : String} {A : Nat → Prop} (hl : (Cond.laysStatic C n d).before args s = true) (hini : (Cond.initialized C).before args s = true) (h : (Cond.isRef (.static C n d)).before args s = true) (hA : ∀ a : Nat, a < s.heap.size → ¬ A a) : vx_Zq C n d A s s.heap := by
  refine ⟨va_Zqof hl hini h hA, ?_⟩
  obtain ⟨c, k, i, f, a, cell, h1, h2, h3, h4, h5, h6, h7, h8, h9⟩ := Cond.laysStatic_spec hl
  exact ⟨c, k, i, f, a, cell, h1, h2, h3, h4, h5, h6, h7, h8, h9, hA a (Array.getElem?_eq_some_iff.mp h5).1⟩
theorem vx_isRef {C n d : String} {v : Value} {A : Nat → Prop} {s : State} {args : Array Value} (h : va_Z C n d v A s s.heap) (hv : v.isRef = true) : (Cond.isRef (.static C n d)).before args s = true := by
  obtain ⟨cf, kf, fi, f, a, cell, h1, h2, h3, h4, h5, h6, h7, -⟩ := h
  have he : (Term.static C n d).eval args s none [] s = some v := by
    simp [Term.eval, State.fieldNamed?, h1, h2, h4, h5, h6, h7]
  simp only [Cond.before, Cond.holds, Cond.value, he]
  cases v <;> simp_all [Value.isRef]
theorem vx_isRefq {C n d : String} {A : Nat → Prop} {s : State} {args : Array Value} (h : va_Zq C n d A s s.heap) : (Cond.isRef (.static C n d)).before args s = true := by
  rcases h with h | ⟨t, h⟩
  · exact vx_isRef h rfl
  · exact vx_isRef h rfl
/-- the same frame, seen from here: as if the method were called anew in this heap -/
theorem vx_rebase {T : State} (X : Stand p l e R s m args below meth c T locs cells slots) {R' : Room} (hf : R'.frames ≤ R.frames) (hl : R'.locals ≤ R.locals) (hc : cells + R'.cells ≤ R.cells) (hs : slots + R'.slots ≤ R.slots) :
    Stand p l e R' ((T.setVm s.vm).setFrames (.invoking m args :: below)) m args below meth c T [] 0 0 := by
  have htop : (T.setVm s.vm).topJava?.isSome := X.here.top
  have hF : ((T.setVm s.vm).setFrames (.invoking m args :: below)).frames = .invoking m args :: below := State.frames_setFrames _ (State.cur_lt_of_top htop)
  obtain ⟨g₀, hg0⟩ := Option.isSome_iff_exists.mp htop
  obtain ⟨r, hr⟩ := State.topJava?_eq_some.mp hg0
  have hl9 : e.platform.stackLimits (T.setVm s.vm).me = e.platform.stackLimits s.me := X.limits
  have hb9 : (T.setVm s.vm).me.stackBytes = s.me.stackBytes := X.bytes
  refine ⟨X.admits, X.cas, X.clock, hF, ?_, X.hears, X.method, X.code, X.here, X.tail, X.warmed, ?_, ?_, ?_⟩
  · have h := X.room
    have hU : ((T.setVm s.vm).setFrames (.invoking m args :: below)).localsInUse = s.localsInUse := by
      rw [State.localsInUse_invoking hF (meth := meth) (c := c) X.method X.code, State.localsInUse_invoking X.frames X.method X.code]
    simp only [State.hasRoom, Bool.and_eq_true, decide_eq_true_eq] at h ⊢
    obtain ⟨⟨⟨⟨h1, h2, h3, h4, h5, h6⟩, h7⟩, h8⟩, h9⟩ := h
    rw [X.frames, List.length_cons] at h2 h3
    have q1 := X.heapSize
    have q2 := X.used
    simp only [hF, hU, List.length_cons, State.stackLimits_setFrames, State.stackBytes_setFrames, hl9, hb9]
    refine ⟨⟨⟨⟨by omega, by omega, by omega, by omega, by omega, h6⟩, ?_⟩, ?_⟩, X.book⟩
    · show T.heap.size + R'.cells ≤ e.platform.maxCells
      omega
    · show T.slotsUsed + R'.slots ≤ e.platform.maxSlots
      omega
  · rw [State.stackLimits_setFrames]; rfl
  · rw [State.stackBytes_setFrames]; rfl
  · refine ⟨?_, Nat.le_refl _, Nat.le_refl _, ?_, ?_, fun a c9 h9 => ⟨c9, h9, rfl, rfl, fun _ _ => rfl⟩⟩
    · obtain ⟨t, ht, -⟩ := State.frames_cons hr
      show T.setVm s.vm = { ((T.setVm s.vm).setFrames (.invoking m args :: below)).setFrames (T.setVm s.vm).frames with heap := T.heap, slotsUsed := T.slotsUsed }
      rw [State.setFrames_setFrames, State.setFrames_self ht]
      rfl
    · show T.slotsUsed = T.slotsUsed + ((T.heap.toList.drop T.heap.size).map (·.slots.size)).sum
      rw [List.drop_eq_nil_of_le (Nat.le_of_eq Array.length_toList)]
      rfl
    · show ((T.heap.toList.drop T.heap.size).map (·.slots.size)).sum ≤ 0
      rw [List.drop_eq_nil_of_le (Nat.le_of_eq Array.length_toList)]
      exact Nat.le_refl _
/-- 'throw new E()': new; dup; invokespecial; athrow -/
theorem vx_throw0 {cc : ByteArray} {pc : Nat} (hexec : p.tables.exec = Jvm.exec) (hb : c.code = cc) (hl : l.stackTraces = false) {own cls : String} {names : List String} {ik ic mc ms : Nat} {A : Nat → Prop}
    (hown : s.vm.findClass own = some m.cls) (hcls : Bundle.fit cls = true) (hnames : ∀ n ∈ names, Bundle.fit n = true)
    (hk : (Cond.classLink own ik cls).before args s = true) (hini : (Cond.initialized cls).before args s = true) (hat : ∀ w ∈ vx_at0 own ic cls names, w.before args s = true)
    (hgood : ∀ w ∈ Cond.classLink own ik cls :: Cond.initialized cls :: vx_at0 own ic cls names, vx_ot w = true)
    (hU : vx_Zq Bundle.tN "UNASSIGNED_STACK" Bundle.steD A s s.heap) (hN : vx_Zq Bundle.tN "SUPPRESSED_SENTINEL" Bundle.listD A s s.heap) (hS : va_S A s.heap H locs) (hsize : ls.size = c.maxLocals)
    (d0 : decode cc pc = .ok (.new ik, 3)) (d3 : decode cc (pc + 3) = .ok (.dup, 1)) (d4 : decode cc (pc + 4) = .ok (.invokespecial ic, 3)) (d7 : decode cc (pc + 7) = .ok (.athrow, 1))
    (hout : ∀ x ∈ c.exceptionTable.toList, covers x (pc + 7) = false)
    (hRframes : names.length + 3 < R.frames) (hRlocals : (rest.map fun v => v.category).sum + (13 * (names.length + 1) + 42) ≤ R.locals) (hRcells : cells + 1 ≤ R.cells) (hRslots : slots + 6 ≤ R.slots) (hlocks : meth.locks = false)
    (hx : ∀ t : State, s.vm.Alike t.vm → H.size ≤ t.heap.size → (∀ q : Nat, q < H.size → t.heap[q]? = H[q]?) → XC cls s t)
    (hf : ∀ z ∈ locs, free z.base) (hc : cells + 1 ≤ mc) (hs : slots + 6 ≤ ms) :
    W p l e R s m args below meth c H locs cells slots (vx_MQ below Qc XC args s mc ms free) (F0 m pc ls rest) := by
  intro T hT X
  have htr : e.platform.stackTraces = false := (show e.platform.stackTraces = l.stackTraces by rw [X.admits.platform]).trans hl
  have Y := vx_rebase X (R' := { frames := R.frames, locals := R.locals, cells := 1, slots := 6 }) (Nat.le_refl _) (Nat.le_refl _) hRcells hRslots
  obtain ⟨s', hA⟩ : ∃ z, z = (T.setVm s.vm).setFrames (.invoking m args :: below) := ⟨_, rfl⟩
  rw [← hA] at Y
  have hvm : s'.vm = s.vm := by rw [hA]; rfl
  have hhp : s'.heap = H := by rw [hA]; exact hT
  have hW0 : s.WarmedH s'.vm := by rw [hvm]; exact State.WarmedH.refl s
  have hat' : ∀ w ∈ vx_at0 own ic cls names, w.before args s' = true := fun w hw => vx_ot_at hW0 hvm.symm (hgood w (List.mem_cons_of_mem _ (List.mem_cons_of_mem _ hw))) (hat w hw)
  have hk' : (Cond.classLink own ik cls).before args s' = true := vx_ot_at hW0 hvm.symm (hgood _ List.mem_cons_self) hk
  have hini' : (Cond.initialized cls).before args s' = true := vx_ot_at hW0 hvm.symm (hgood _ (List.mem_cons_of_mem _ List.mem_cons_self)) hini
  have hU' : vx_Zq Bundle.tN "UNASSIGNED_STACK" Bundle.steD A s' s'.heap := by rw [hhp]; exact vx_Zq.moved hW0.alike (hU.kept hS.2.1)
  have hN' : vx_Zq Bundle.tN "SUPPRESSED_SENTINEL" Bundle.listD A s' s'.heap := by rw [hhp]; exact vx_Zq.moved hW0.alike (hN.kept hS.2.1)
  have h : ∀ w ∈ Bundle.ownAtoms0 own ic cls names, w.before args s' = true := vx_own hat' (vx_isRefq hU'.1) (vx_isRefq hN'.1) hU'.2.word hN'.2.word
  have hown' : s'.vm.findClass own = some m.cls := by rw [hvm]; exact hown
  have hins : (Cond.instantiable cls 6).before args s' = true := h _ (by simp [Bundle.ownAtoms0])
  obtain ⟨vm₁, cX, kX, hfX, hkX, -, -, X₁, st1⟩ := Y.newCold hexec (own := own) (C := cls) (index := ik) (n := 6) hown' hk' hins hini'
    (g := F0 m pc ls rest) rfl (by rw [hb]; exact d0) (Nat.le_refl _) (Nat.le_refl _)
  generalize hT1 : (T.setVm vm₁).pushCell { cls := cX, slots := kX.instanceTypes.map defaultValue, vm := .none } = T1 at X₁ st1
  have hcat : (Value.ref T.heap.size).category = 1 := rfl
  have hcellA : T1.heap[T.heap.size]? = some (freshCell cX kX) := by rw [← hT1]; exact State.heap_pushCell_size _ _
  have d3' : decode c.code (pc + 3) = .ok (.dup, 1) := by rw [hb]; exact d3
  obtain ⟨U, hsteps, hrun, hend, hW, hsame, ce, hce, hO⟩ := X₁.ctorThrow0 hexec htr (own := own) (cls := cls) (names := names) (ic := ic) hown' hcls hnames h (fun x hx => nomatch hx) hfX hkX hcellA (by rw [hhp, hT]; exact Nat.le_refl _)
    (g := { method := m, pc := pc + 4, locals := ls, stack := .ref T.heap.size :: .ref T.heap.size :: rest, locked := none }) rfl hsize rfl rfl (rest := rest) rfl
    (by rw [hb]; exact d4) (by rw [hb]; exact d7) hout hRframes (by simp only [List.map_cons, List.sum_cons, hcat]; omega) hlocks
  obtain ⟨f1, f2⟩ := vx_frame hsame
  rw [hhp] at f1 f2
  have hWs : s.WarmedH U.vm := State.WarmedH.trans hW0 hW
  have hcl : s.vm.findClass cls = some ce.cls := by
    have h9 := hO.cls
    rw [hvm] at h9
    exact h9
  have hall : s.sameButNew ({ U with vm := s.vm } : State) locs mc ms := by
    subst hA
    obtain ⟨e1, e2⟩ := hsame
    rw [State.setFrames_setFrames] at e1
    have h2 : (T.setVm s.vm).sameButNew ({ U with vm := s.vm } : State) [] (0 + 1) (0 + 6) := ⟨e1, e2⟩
    have h3 := X.same.trans h2
    rw [List.append_nil] at h3
    exact h3.mono hc hs
  refine ⟨U, ?_, .threw T.heap.size, hrun, hend, Or.inr ⟨T.heap.size, rfl, cls, ce, locs, hx U hWs.alike f1 (fun q hq => f2 q hq (fun z hz => nomatch hz)), hce, hO.vm, hcl, hWs, hall, hf⟩⟩
  refine st1 _ ?_
  show Steps p.tables e below (T1.setTop { method := m, pc := pc + 3, locals := ls, stack := .ref T.heap.size :: rest, locked := none }) _
  jvm_step X₁.here [X₁.here.top, hexec, d3', Value.category]
  exact hsteps
/-- 'throw new E("text")': new; dup; ldc; invokespecial; athrow -/
theorem vx_throwS {cc : ByteArray} {pc : Nat} (hexec : p.tables.exec = Jvm.exec) (hb : c.code = cc) (hl : l.stackTraces = false) {own cls text : String} {names : List String} {ik is ic mc ms sa : Nat} {A : Nat → Prop}
    (hown : s.vm.findClass own = some m.cls) (hcls : Bundle.fit cls = true) (hnames : ∀ n ∈ names, Bundle.fit n = true)
    (hk : (Cond.classLink own ik cls).before args s = true) (hini : (Cond.initialized cls).before args s = true) (hstr : vk_R own is text sa s) (hat : ∀ w ∈ vx_atS own ic cls names, w.before args s = true)
    (hgood : ∀ w ∈ Cond.classLink own ik cls :: Cond.initialized cls :: vx_atS own ic cls names, vx_ot w = true)
    (hU : vx_Zq Bundle.tN "UNASSIGNED_STACK" Bundle.steD A s s.heap) (hN : vx_Zq Bundle.tN "SUPPRESSED_SENTINEL" Bundle.listD A s s.heap) (hS : va_S A s.heap H locs) (hsize : ls.size = c.maxLocals)
    (d0 : decode cc pc = .ok (.new ik, 3)) (d3 : decode cc (pc + 3) = .ok (.dup, 1)) (d4 : decode cc (pc + 4) = .ok (.ldc is, 2)) (d6 : decode cc (pc + 6) = .ok (.invokespecial ic, 3)) (d9 : decode cc (pc + 9) = .ok (.athrow, 1))
    (hout : ∀ x ∈ c.exceptionTable.toList, covers x (pc + 9) = false)
    (hRframes : names.length + 3 < R.frames) (hRlocals : (rest.map fun v => v.category).sum + (13 * (names.length + 1) + 43) ≤ R.locals) (hRcells : cells + 1 ≤ R.cells) (hRslots : slots + 6 ≤ R.slots) (hlocks : meth.locks = false)
    (hx : ∀ t : State, s.vm.Alike t.vm → H.size ≤ t.heap.size → (∀ q : Nat, q < H.size → t.heap[q]? = H[q]?) → XC cls s t)
    (hf : ∀ z ∈ locs, free z.base) (hc : cells + 1 ≤ mc) (hs : slots + 6 ≤ ms) :
    W p l e R s m args below meth c H locs cells slots (vx_MQ below Qc XC args s mc ms free) (F0 m pc ls rest) := by
  intro T hT X
  have htr : e.platform.stackTraces = false := (show e.platform.stackTraces = l.stackTraces by rw [X.admits.platform]).trans hl
  have Y := vx_rebase X (R' := { frames := R.frames, locals := R.locals, cells := 1, slots := 6 }) (Nat.le_refl _) (Nat.le_refl _) hRcells hRslots
  obtain ⟨s', hA⟩ : ∃ z, z = (T.setVm s.vm).setFrames (.invoking m args :: below) := ⟨_, rfl⟩
  rw [← hA] at Y
  have hvm : s'.vm = s.vm := by rw [hA]; rfl
  have hhp : s'.heap = H := by rw [hA]; exact hT
  have hW0 : s.WarmedH s'.vm := by rw [hvm]; exact State.WarmedH.refl s
  have hat' : ∀ w ∈ vx_atS own ic cls names, w.before args s' = true := fun w hw => vx_ot_at hW0 hvm.symm (hgood w (List.mem_cons_of_mem _ (List.mem_cons_of_mem _ hw))) (hat w hw)
  have hk' : (Cond.classLink own ik cls).before args s' = true := vx_ot_at hW0 hvm.symm (hgood _ List.mem_cons_self) hk
  have hini' : (Cond.initialized cls).before args s' = true := vx_ot_at hW0 hvm.symm (hgood _ (List.mem_cons_of_mem _ List.mem_cons_self)) hini
  have hU' : vx_Zq Bundle.tN "UNASSIGNED_STACK" Bundle.steD A s' s'.heap := by rw [hhp]; exact vx_Zq.moved hW0.alike (hU.kept hS.2.1)
  have hN' : vx_Zq Bundle.tN "SUPPRESSED_SENTINEL" Bundle.listD A s' s'.heap := by rw [hhp]; exact vx_Zq.moved hW0.alike (hN.kept hS.2.1)
  have h : ∀ w ∈ Bundle.ownAtoms own ic cls names, w.before args s' = true := vx_own hat' (vx_isRefq hU'.1) (vx_isRefq hN'.1) hU'.2.word hN'.2.word
  have hown' : s'.vm.findClass own = some m.cls := by rw [hvm]; exact hown
  have hins : (Cond.instantiable cls 6).before args s' = true := h _ (by simp [Bundle.ownAtoms])
  obtain ⟨vm₁, cX, kX, hfX, hkX, -, -, X₁, st1⟩ := Y.newCold hexec (own := own) (C := cls) (index := ik) (n := 6) hown' hk' hins hini'
    (g := F0 m pc ls rest) rfl (by rw [hb]; exact d0) (Nat.le_refl _) (Nat.le_refl _)
  generalize hT1 : (T.setVm vm₁).pushCell { cls := cX, slots := kX.instanceTypes.map defaultValue, vm := .none } = T1 at X₁ st1
  have hcat : (Value.ref T.heap.size).category = 1 := rfl
  have hcellA : T1.heap[T.heap.size]? = some (freshCell cX kX) := by rw [← hT1]; exact State.heap_pushCell_size _ _
  have d3' : decode c.code (pc + 3) = .ok (.dup, 1) := by rw [hb]; exact d3
  have d4' : decode c.code (pc + 4) = .ok (.ldc is, 2) := by rw [hb]; exact d4
  have hstr' : vk_R own is text sa s' := vk_R.warm hW0 hstr
  obtain ⟨U, hsteps, hrun, hend, hW, hsame, ce, hce, hO⟩ := X₁.ctorThrowS hexec htr (own := own) (cls := cls) (names := names) (ic := ic) hown' hcls hnames h (fun x hx => nomatch hx) hfX hkX hcellA (by rw [hhp, hT]; exact Nat.le_refl _) (msg := .ref sa) rfl
    (g := { method := m, pc := pc + 6, locals := ls, stack := .ref sa :: .ref T.heap.size :: .ref T.heap.size :: rest, locked := none }) rfl hsize rfl rfl (rest := rest) rfl
    (by rw [hb]; exact d6) (by rw [hb]; exact d9) hout hRframes (by simp only [List.map_cons, List.sum_cons, hcat]; omega) hlocks
  obtain ⟨f1, f2⟩ := vx_frame hsame
  rw [hhp] at f1 f2
  have hWs : s.WarmedH U.vm := State.WarmedH.trans hW0 hW
  have hcl : s.vm.findClass cls = some ce.cls := by
    have h9 := hO.cls
    rw [hvm] at h9
    exact h9
  have hall : s.sameButNew ({ U with vm := s.vm } : State) locs mc ms := by
    subst hA
    obtain ⟨e1, e2⟩ := hsame
    rw [State.setFrames_setFrames] at e1
    have h2 : (T.setVm s.vm).sameButNew ({ U with vm := s.vm } : State) [] (0 + 1) (0 + 6) := ⟨e1, e2⟩
    have h3 := X.same.trans h2
    rw [List.append_nil] at h3
    exact h3.mono hc hs
  refine ⟨U, ?_, .threw T.heap.size, hrun, hend, Or.inr ⟨T.heap.size, rfl, cls, ce, locs, hx U hWs.alike f1 (fun q hq => f2 q hq (fun z hz => nomatch hz)), hce, hO.vm, hcl, hWs, hall, hf⟩⟩
  refine st1 _ ?_
  show Steps p.tables e below (T1.setTop { method := m, pc := pc + 3, locals := ls, stack := .ref T.heap.size :: rest, locked := none }) _
  jvm_step X₁.here [X₁.here.top, hexec, d3', Value.category]
  exact X₁.ldcString hexec (own := own) (text := text) (index := is) (a := sa) hown' hstr'.1 hstr'.2
    (g := { method := m, pc := pc + 4, locals := ls, stack := .ref T.heap.size :: .ref T.heap.size :: rest, locked := none }) rfl d4' _ hsteps
/-- 'throw new E("text")', the text by a wide index -/
theorem vx_throwSW {cc : ByteArray} {pc : Nat} (hexec : p.tables.exec = Jvm.exec) (hb : c.code = cc) (hl : l.stackTraces = false) {own cls text : String} {names : List String} {ik is ic mc ms sa : Nat} {A : Nat → Prop}
    (hown : s.vm.findClass own = some m.cls) (hcls : Bundle.fit cls = true) (hnames : ∀ n ∈ names, Bundle.fit n = true)
    (hk : (Cond.classLink own ik cls).before args s = true) (hini : (Cond.initialized cls).before args s = true) (hstr : vk_R own is text sa s) (hat : ∀ w ∈ vx_atS own ic cls names, w.before args s = true)
    (hgood : ∀ w ∈ Cond.classLink own ik cls :: Cond.initialized cls :: vx_atS own ic cls names, vx_ot w = true)
    (hU : vx_Zq Bundle.tN "UNASSIGNED_STACK" Bundle.steD A s s.heap) (hN : vx_Zq Bundle.tN "SUPPRESSED_SENTINEL" Bundle.listD A s s.heap) (hS : va_S A s.heap H locs) (hsize : ls.size = c.maxLocals)
    (d0 : decode cc pc = .ok (.new ik, 3)) (d3 : decode cc (pc + 3) = .ok (.dup, 1)) (d4 : decode cc (pc + 4) = .ok (.ldc_w is, 3)) (d7 : decode cc (pc + 7) = .ok (.invokespecial ic, 3)) (d10 : decode cc (pc + 10) = .ok (.athrow, 1))
    (hout : ∀ x ∈ c.exceptionTable.toList, covers x (pc + 10) = false)
    (hRframes : names.length + 3 < R.frames) (hRlocals : (rest.map fun v => v.category).sum + (13 * (names.length + 1) + 43) ≤ R.locals) (hRcells : cells + 1 ≤ R.cells) (hRslots : slots + 6 ≤ R.slots) (hlocks : meth.locks = false)
    (hx : ∀ t : State, s.vm.Alike t.vm → H.size ≤ t.heap.size → (∀ q : Nat, q < H.size → t.heap[q]? = H[q]?) → XC cls s t)
    (hf : ∀ z ∈ locs, free z.base) (hc : cells + 1 ≤ mc) (hs : slots + 6 ≤ ms) :
    W p l e R s m args below meth c H locs cells slots (vx_MQ below Qc XC args s mc ms free) (F0 m pc ls rest) := by
  intro T hT X
  have htr : e.platform.stackTraces = false := (show e.platform.stackTraces = l.stackTraces by rw [X.admits.platform]).trans hl
  have Y := vx_rebase X (R' := { frames := R.frames, locals := R.locals, cells := 1, slots := 6 }) (Nat.le_refl _) (Nat.le_refl _) hRcells hRslots
  obtain ⟨s', hA⟩ : ∃ z, z = (T.setVm s.vm).setFrames (.invoking m args :: below) := ⟨_, rfl⟩
  rw [← hA] at Y
  have hvm : s'.vm = s.vm := by rw [hA]; rfl
  have hhp : s'.heap = H := by rw [hA]; exact hT
  have hW0 : s.WarmedH s'.vm := by rw [hvm]; exact State.WarmedH.refl s
  have hat' : ∀ w ∈ vx_atS own ic cls names, w.before args s' = true := fun w hw => vx_ot_at hW0 hvm.symm (hgood w (List.mem_cons_of_mem _ (List.mem_cons_of_mem _ hw))) (hat w hw)
  have hk' : (Cond.classLink own ik cls).before args s' = true := vx_ot_at hW0 hvm.symm (hgood _ List.mem_cons_self) hk
  have hini' : (Cond.initialized cls).before args s' = true := vx_ot_at hW0 hvm.symm (hgood _ (List.mem_cons_of_mem _ List.mem_cons_self)) hini
  have hU' : vx_Zq Bundle.tN "UNASSIGNED_STACK" Bundle.steD A s' s'.heap := by rw [hhp]; exact vx_Zq.moved hW0.alike (hU.kept hS.2.1)
  have hN' : vx_Zq Bundle.tN "SUPPRESSED_SENTINEL" Bundle.listD A s' s'.heap := by rw [hhp]; exact vx_Zq.moved hW0.alike (hN.kept hS.2.1)
  have h : ∀ w ∈ Bundle.ownAtoms own ic cls names, w.before args s' = true := vx_own hat' (vx_isRefq hU'.1) (vx_isRefq hN'.1) hU'.2.word hN'.2.word
  have hown' : s'.vm.findClass own = some m.cls := by rw [hvm]; exact hown
  have hins : (Cond.instantiable cls 6).before args s' = true := h _ (by simp [Bundle.ownAtoms])
  obtain ⟨vm₁, cX, kX, hfX, hkX, -, -, X₁, st1⟩ := Y.newCold hexec (own := own) (C := cls) (index := ik) (n := 6) hown' hk' hins hini'
    (g := F0 m pc ls rest) rfl (by rw [hb]; exact d0) (Nat.le_refl _) (Nat.le_refl _)
  generalize hT1 : (T.setVm vm₁).pushCell { cls := cX, slots := kX.instanceTypes.map defaultValue, vm := .none } = T1 at X₁ st1
  have hcat : (Value.ref T.heap.size).category = 1 := rfl
  have hcellA : T1.heap[T.heap.size]? = some (freshCell cX kX) := by rw [← hT1]; exact State.heap_pushCell_size _ _
  have d3' : decode c.code (pc + 3) = .ok (.dup, 1) := by rw [hb]; exact d3
  have d4' : decode c.code (pc + 4) = .ok (.ldc_w is, 3) := by rw [hb]; exact d4
  have hstr' : vk_R own is text sa s' := vk_R.warm hW0 hstr
  obtain ⟨U, hsteps, hrun, hend, hW, hsame, ce, hce, hO⟩ := X₁.ctorThrowS hexec htr (own := own) (cls := cls) (names := names) (ic := ic) hown' hcls hnames h (fun x hx => nomatch hx) hfX hkX hcellA (by rw [hhp, hT]; exact Nat.le_refl _) (msg := .ref sa) rfl
    (g := { method := m, pc := pc + 7, locals := ls, stack := .ref sa :: .ref T.heap.size :: .ref T.heap.size :: rest, locked := none }) rfl hsize rfl rfl (rest := rest) rfl
    (by rw [hb]; exact d7) (by rw [hb]; exact d10) hout hRframes (by simp only [List.map_cons, List.sum_cons, hcat]; omega) hlocks
  obtain ⟨f1, f2⟩ := vx_frame hsame
  rw [hhp] at f1 f2
  have hWs : s.WarmedH U.vm := State.WarmedH.trans hW0 hW
  have hcl : s.vm.findClass cls = some ce.cls := by
    have h9 := hO.cls
    rw [hvm] at h9
    exact h9
  have hall : s.sameButNew ({ U with vm := s.vm } : State) locs mc ms := by
    subst hA
    obtain ⟨e1, e2⟩ := hsame
    rw [State.setFrames_setFrames] at e1
    have h2 : (T.setVm s.vm).sameButNew ({ U with vm := s.vm } : State) [] (0 + 1) (0 + 6) := ⟨e1, e2⟩
    have h3 := X.same.trans h2
    rw [List.append_nil] at h3
    exact h3.mono hc hs
  refine ⟨U, ?_, .threw T.heap.size, hrun, hend, Or.inr ⟨T.heap.size, rfl, cls, ce, locs, hx U hWs.alike f1 (fun q hq => f2 q hq (fun z hz => nomatch hz)), hce, hO.vm, hcl, hWs, hall, hf⟩⟩
  refine st1 _ ?_
  show Steps p.tables e below (T1.setTop { method := m, pc := pc + 3, locals := ls, stack := .ref T.heap.size :: rest, locked := none }) _
  jvm_step X₁.here [X₁.here.top, hexec, d3', Value.category]
  exact X₁.ldcStringW hexec (own := own) (text := text) (index := is) (a := sa) hown' hstr'.1 hstr'.2
    (g := { method := m, pc := pc + 4, locals := ls, stack := .ref T.heap.size :: .ref T.heap.size :: rest, locked := none }) rfl d4' _ hsteps
end Ends
section Bodies
variable {l : Launch}
theorem vx_ofW {y : MethodName} {ws ws' : List Cond} {rm : Room} {Pc : Array Value → State → Prop} {Qc : Array Value → State → Outcome → State → Prop} {XC : String → State → State → Prop} {mc ms : Nat} {free : Addr → Prop} {cc : ByteArray} {maxL : Nat} {ret : Option FieldType}
    (hy : plainName y.cls = true) (hw : ws = Cond.code y cc maxL ret :: ws')
    (body : ∀ p e s m args below meth c s₁, BodyLoose p l y (headSpec ws rm) cc maxL ret e s m args below meth c s₁ → c.maxLocals = maxL → (∀ x ∈ c.exceptionTable.toList, False) → Pc args s →
      W p l e (headSpec ws rm).room s m args below meth c s.heap [] 0 0 (vx_MQ below Qc XC args s mc ms free) (entryFrame m args maxL)) : vx_Met l y ws rm Pc Qc XC mc ms free := by
  refine MetFree.of_bodyS (code := cc) (maxLocals := maxL) (ret := ret) hy ?_ ?_
  · intro args s m h hn
    obtain ⟨meth, c, h1, h2, h3, h4, h5, h6, -, -⟩ := Cond.code_spec hn (atoms_spec (ws := ws) h _ (by rw [hw]; exact List.mem_cons_self))
    exact ⟨meth, c, h1, h2, h3, h4, h5, h6⟩
  · intro p e s m args below meth c s₁ B hml hP _
    have hh0 : s₁.heap = s.heap := by rw [B.state]; rfl
    have ht : ∀ x ∈ c.exceptionTable.toList, False := by
      obtain ⟨meth9, c9, h1, h2, -, -, -, -, h7, -⟩ := Cond.code_spec B.named (atoms_spec (ws := ws) B.pre _ (by rw [hw]; exact List.mem_cons_self))
      cases Option.some.inj (h1.symm.trans B.method)
      cases Option.some.inj (h2.symm.trans (Stand.of_body B).code)
      intro x hx
      rw [Array.isEmpty_iff.mp h7] at hx
      cases hx
    obtain ⟨t, a1, o, b1, b2, b3⟩ := body p e s m args below meth c s₁ B hml ht hP s₁ hh0 (Stand.of_body B)
    exact ⟨t, o, a1, b1, b2, b3⟩
/-- the table of a body with handlers -/
theorem vx_table {p : Program} {x y : MethodName} {S : Spec} {cc bytes : ByteArray} {maxL maxL' : Nat} {ret ret' : Option FieldType} {e : Env} {s s₁ : State} {m : MethodId} {args : Array Value} {below : List Frame} {meth : Method} {c : Code} {hh : List (Nat × Nat × Nat × Nat)}
    (B : BodyLoose p l y S cc maxL ret e s m args below meth c s₁) (h : (Cond.codeWith y bytes maxL' ret' hh).before args s = true) : c.exceptionTable.toList = tableOf hh := by
  obtain ⟨m9, meth9, c9, hn9, h1, h2, -, -, h6, -⟩ := Cond.codeWith_spec h
  cases Option.some.inj (hn9.symm.trans B.named)
  cases Option.some.inj (h1.symm.trans B.method)
  cases Option.some.inj (h2.symm.trans (Stand.of_body B).code)
  rw [← h6, table_eq]
end Bodies
end VXA
/-! ===== END ===== -/
/-! ===== BEGIN a static call of a method with an exception table ===== -/
section VXS
variable {p : Program} {l : Launch} {e : Env} {R : Room} {s : State} {m : MethodId} {args : Array Value} {below : List Frame} {meth : Method} {c : Code} {T : State} {H : Heap} {locs : List Loc} {cells slots : Nat}
abbrev vx_CSW (R : Room) (s : State) (args : Array Value) (own : String) (index : Nat) (y : MethodName) (bytes : ByteArray) (maxL : Nat) (ret : Option FieldType) (hh : List (Nat × Nat × Nat × Nat)) (ws : List Cond) (rm : Room) (mc ms n : Nat) : Prop :=
  (rm.cells = mc ∧ rm.slots = ms ∧ rm.frames + 1 ≤ R.frames ∧ 8 + (maxL + 11) + rm.locals ≤ R.locals ∧ (∀ w ∈ ws, ∀ (a' : Array Value) (U : State), s.WarmedH U.vm → w.before a' U = true) ∧ Cond.codeWith y bytes maxL ret hh ∈ ws) ∧
  (Cond.codeWith y bytes maxL ret hh).before args s = true ∧ (Cond.initialized y.cls).before args s = true ∧ (y.cls ≠ "java/lang/invoke/MethodHandle" ∧ y.cls ≠ "java/lang/invoke/VarHandle") ∧
  (∀ sig, parseMethodDescriptor y.desc = some sig → n = sig.parameters.length) ∧ (Cond.methodLink own index y).before args s = true ∧ (Cond.static y).before args s = true
theorem vx_cwSW {own : String} {index maxL mc ms : Nat} {y : MethodName} {bytes : ByteArray} {ret : Option FieldType} {hh : List (Nat × Nat × Nat × Nat)} {Ts ws ws' : List Cond} {rm : Room} (n : Nat) (ht : ∀ w ∈ Ts, w.before args s = true) (hT : GoodIn Ts (va_wsS own index y ws)) (hw : ws = Cond.codeWith y bytes maxL ret hh :: ws') (hrc : rm.cells = mc) (hrs : rm.slots = ms)
    (hd : y.cls ≠ "java/lang/invoke/MethodHandle" ∧ y.cls ≠ "java/lang/invoke/VarHandle" ∧ (parseMethodDescriptor y.desc).map (fun d => d.parameters.length) = some n) (hR : rm.frames + 1 ≤ R.frames ∧ 8 + (maxL + 11) + rm.locals ≤ R.locals) :
    vx_CSW R s args own index y bytes maxL ret hh ws rm mc ms n := by
  have ok : ∀ w ∈ va_wsS own index y ws, w.before args s = true := fun w h => ht w (hT w h).1
  have hG : GoodIn Ts ws := fun w h => hT w (by unfold va_wsS; exact List.mem_append_right _ h)
  have hc : Cond.codeWith y bytes maxL ret hh ∈ ws := by rw [hw]; exact List.mem_cons_self
  refine ⟨⟨hrc, hrs, hR.1, hR.2, pay_in ht hG, hc⟩, ht _ (hG _ hc).1, ok _ (by simp [va_wsS]), ⟨hd.1, hd.2.1⟩, fun sig h => ?_, ok _ (by simp [va_wsS]), ok _ (by simp [va_wsS])⟩
  have h2 := hd.2.2
  rw [h] at h2
  exact (Option.some.inj h2).symm
theorem vx_callSW (X : Stand p l e R s m args below meth c T locs cells slots) (hexec : p.tables.exec = Jvm.exec) {own : String} {index : Nat} {y : MethodName} {bytes : ByteArray} {maxL : Nat} {ret : Option FieldType} {hh : List (Nat × Nat × Nat × Nat)}
    (hown : s.vm.findClass own = some m.cls) (hlink : (Cond.methodLink own index y).before args s = true) (hstat : (Cond.static y).before args s = true) (hinit : (Cond.initialized y.cls).before args s = true)
    (hcode : (Cond.codeWith y bytes maxL ret hh).before args s = true) (hy : y.cls ≠ "java/lang/invoke/MethodHandle" ∧ y.cls ≠ "java/lang/invoke/VarHandle")
    {W9 : Nat} {Pre : Pt → Array Value → Prop} {Post : Pt → Array Value → Option Value → Pt → Prop} (hK : Back l R p e below s args y 3 W9 Pre Post)
    {g : JFrame} (hg : g.method = m) (hsize : g.locals.size = c.maxLocals) {argsL rest : List Value} (hlen : ∀ sig, parseMethodDescriptor y.desc = some sig → argsL.length = sig.parameters.length)
    (hstack : g.stack = argsL.reverse ++ rest) (hW : 2 * g.monitorRoom + (rest.map fun v => v.category).sum ≤ W9) (hdg : decode c.code g.pc = .ok (.invokestatic index, 3))
    (hpre : ∀ vm₁, s.WarmedH vm₁ → Pre ⟨T.setVm vm₁, locs, cells, slots⟩ argsL.toArray) :
    ∃ (v : Option Value) (vm₁ : Vm) (B : Pt), s.WarmedH vm₁ ∧ Stand p l e R s m args below meth c B.U B.locs B.cells B.slots ∧ Post ⟨T.setVm vm₁, locs, cells, slots⟩ argsL.toArray v B ∧
      ∀ target, Steps p.tables e below (B.U.setTop { g with pc := g.pc + 3, stack := v.toList ++ rest }) target → Steps p.tables e below (T.setTop g) target := by
  obtain ⟨mk, methM, cM, hnamed, hmethM, -, -, -, -, -, -, hsigM⟩ := Cond.codeWith_spec hcode
  have hstatic : methM.isStatic = true := Cond.static_spec hnamed hmethM hstat
  obtain ⟨kP, hkP, -⟩ := className_of_methodNamed hnamed
  have hinitP : kP.init = .initialized := Cond.initialized_spec (findClass_of_methodNamed hnamed) hkP hinit
  obtain ⟨vm₁, X₁, hstep₁⟩ := X.invokestatic hexec hown hlink hnamed hmethM hstatic hkP hinitP hy (g := g) hg (argsL := argsL) (rest := rest) (hlen _ hsigM) hstack hdg
  obtain ⟨v, B, X', hpost, hsteps⟩ := hK m meth c ⟨T.setVm vm₁, locs, cells, slots⟩ { g with stack := rest } (.invokestatic index) mk argsL.toArray X₁ hg hsize hdg hW (X₁.named hnamed) (hpre vm₁ X₁.warmed)
  exact ⟨v, vm₁, B, X₁.warmed, X', hpost, fun target h => hstep₁ _ fun acts => by rw [doInvoke_state]; exact hsteps.trans h⟩
theorem vx_runSW {y : MethodName} {bytes cc : ByteArray} {maxL nL mc ms n index : Nat} {ret : Option FieldType} {hh : List (Nat × Nat × Nat × Nat)} {ws : List Cond} {rm : Room} {Pc : Array Value → State → Prop} {Qc : Array Value → State → Outcome → State → Prop} {free : Addr → Prop} {Ts : List Cond} {own : String} {As rest : List Value} {g : JFrame}
    (S : CallFix p m c cc nL s args Ts own) (hM : Met l y ws rm Pc Qc mc ms free) (cw : vx_CSW R s args own index y bytes maxL ret hh ws rm mc ms n) (hp : PreS s H Pc As)
    (hg : g.method = m) (hn : As.length = n) (hsize : g.locals.size = nL) (hstack : g.stack = As.reverse ++ rest) (hW : 2 * g.monitorRoom + (rest.map fun v => v.category).sum ≤ 8) (hdg : decode cc g.pc = .ok (.invokestatic index, 3)) (hf : cells + mc ≤ R.cells ∧ slots + ms ≤ R.slots) :
    va_Run p l e R s m args below meth c H locs cells slots mc ms g rest (Qc As.toArray) (free) := by
  obtain ⟨⟨hrc, hrs, hfr, hlo, hws, hcw⟩, hcode, hini, hy, hlen, hl, hstt⟩ := cw
  have hK : Back l R p e below s args y 3 8 (PreOf R mc ms Pc) (PostOf Qc mc ms free) := va_backW (hh := hh) (bytes := bytes) (maxL := maxL) (ret := ret) hM hp.1 hrc hrs hfr hlo hws hcw (fun a' U hW => word_at hW (Or.inl (by first | rfl | simp [Cond.onTables, Cond.keeps, Cond.steady])) hini)
  obtain ⟨hx, hb, hml, ho, -⟩ := S
  intro T hT X
  obtain ⟨v, vm₁, ⟨U', l2, c2, s2⟩, hW₁, X', ⟨g', mk, t, L, e1, e2, hq, h1, hL, h2, h3⟩, st⟩ := vx_callSW X hx (hh := hh) (bytes := bytes) (maxL := maxL) (ret := ret) ho hl hstt hini hcode hy hK hg (hsize.trans hml.symm) (argsL := As) (rest := rest) (fun sig h => hn.trans (hlen sig h)) hstack hW (by rw [hb]; exact hdg)
    (fun vm₁ hW₁ => ⟨hf.1, hf.2, hp.2 (T.setVm vm₁) hT hW₁⟩)
  dsimp only [Pt.U, Pt.locs, Pt.cells, Pt.slots] at X' e1 e2 h1 h2 h3 st
  subst h1; subst h2; subst h3
  exact ⟨v, (T.setVm vm₁).calling g' mk As.toArray, t, U', L, hT, X', hL, e1, e2, hq, st⟩
/-- a thing of a world lies in the heap -/
theorem vx_lt {D : va_G} {cl : List vw_C} {ws : va_W} {H1 : Heap} (h : va_P D cl ws H1) {k : Nat} {q : Nat × va_E} (hk : ws[k]? = some q) : q.1 < H1.size := (h k q hk).lt
end VXS
/-! ===== END ===== -/
/-! ===== BEGIN methods with a table of their own: called by a name, returning or throwing ===== -/
section VXH
/-! vx_backW, vx_callVX, vx_callSX, vx_callVW, vx_runVW, vx_runVX, vx_runSX, vx_ofWH follow the same proofs as their sisters above (Free/Laws.lean, Shelf42/LK1.lean); vx_outP calls Shelf42/NT130.lean (outThrough). -/
section
variable {l : Launch} {R : Room} {p : Program} {e : Env} {below : List Frame} {s : State} {sargs : Array Value} {y : MethodName} {len W9 : Nat}
theorem vx_backW {ws : List Cond} {rm : Room} {Pc : Array Value → State → Prop} {Qc : Array Value → State → Outcome → State → Prop} {XC : String → State → State → Prop} {mc ms : Nat} {free : Addr → Prop} {bytes : ByteArray} {maxL : Nat} {ret : Option FieldType} {hh : List (Nat × Nat × Nat × Nat)}
    (hM : vx_Met l y ws rm Pc Qc XC mc ms free) (hblind : FrameBlind Pc) (hrc : rm.cells = mc) (hrs : rm.slots = ms)
    (hframes : rm.frames + 1 ≤ R.frames) (hlocals : W9 + (maxL + 11) + rm.locals ≤ R.locals)
    (hws : ∀ w ∈ ws, ∀ a' U, s.WarmedH U.vm → w.before a' U = true) (hcode : Cond.codeWith y bytes maxL ret hh ∈ ws) (hinit : ∀ a' U, s.WarmedH U.vm → (Cond.initialized y.cls).before a' U = true) :
    vx_Back l R p e below s sargs y len W9 (PreOf R mc ms Pc) (PostOf Qc mc ms free) (vx_Post XC mc ms free) := by
  intro m meth c A g ig mk a X hg hsize hdg hW hn hp
  have h1 : (headSpec ws rm).pre.before a A.U = true := atoms_intro fun w hw => hws w hw _ _ X.warmed
  have h2 : (Cond.codeWith y bytes maxL ret hh).before a A.U = true := hws _ hcode _ _ X.warmed
  have h3 : (Cond.initialized y.cls).before a A.U = true := hinit _ _ X.warmed
  have h4 : A.cells + (headSpec ws rm).room.cells ≤ R.cells := by rw [show (headSpec ws rm).room.cells = mc from hrc]; exact hp.1
  have h5 : A.slots + (headSpec ws rm).room.slots ≤ R.slots := by rw [show (headSpec ws rm).room.slots = ms from hrs]; exact hp.2.1
  have hPc : Pc a (A.U.calling g mk a) := hblind _ _ _ _ hp.2.2
  obtain ⟨U, Ls, c0, s0⟩ := A
  dsimp only [Pt.U, Pt.locs, Pt.cells, Pt.slots] at h1 h2 h3 h4 h5 X hn hPc ⊢
  obtain ⟨m9, methY, cY, hn9, hmY, hcY, -, hlY, -⟩ := Cond.codeWith_spec h2
  cases Option.some.inj (hn9.symm.trans hn)
  obtain ⟨kY, hkY, -⟩ := className_of_methodNamed hn
  have hinitY : kY.init = .initialized := Cond.initialized_spec (findClass_of_methodNamed hn) hkY h3
  have h : At U g.method c below := by rw [hg]; exact X.here
  have hlocals9 : W9 + (maxL + 11) + (headSpec ws rm).room.locals ≤ R.locals := hlocals
  have happ : (headSpec ws rm).appliesLoose y e.platform (U.calling g mk a) = true :=
    Spec.appliesLoose_calling (g := g) h hdg hn hkY hinitY
      (X.room_calling (g := g) (R' := (headSpec ws rm).room) hsize hmY hcY hframes (by rw [hlY]; omega) h4 h5) h1
  obtain ⟨mid, hmid⟩ := h.above
  have hfr : (U.setTop g).frames = (.java g :: mid) ++ below := by rw [State.frames_setTop' g h.top, hmid]; rfl
  obtain ⟨o, s₂, hsteps, -, hend, hq⟩ := Steps.callFree hM p X.admits X.cas X.clock (acts := []) hfr happ hPc trivial
  have hq' : vx_Q Qc XC mc ms free a (U.calling g mk a) o s₂ := hq
  rw [State.frames_setTop' g h.top] at hend
  obtain ⟨g₀, hg0⟩ := Option.isSome_iff_exists.mp h.top
  obtain ⟨r, hr⟩ := State.topJava?_eq_some.mp hg0
  have hr' : (({ U with heap := s₂.heap, slotsUsed := s₂.slotsUsed } : State).setVm s₂.vm).frames = .java g₀ :: r := hr
  rcases hq' with ⟨hqc, L, hfe, hL⟩ | ⟨q, rfl, E, ce, L, hx, hce, hcv, hcl, hW₂, hsm, hL⟩
  · obtain ⟨⟨v, rfl⟩, hW₂, e2, q2, q3, q4, q5, q6⟩ := id hfe
    have e3 : s₂ = ({ (U.calling g mk a).setFrames s₂.frames with heap := s₂.heap, slotsUsed := s₂.slotsUsed } : State).setVm s₂.vm := by
      have : s₂ = ({ s₂ with vm := (U.calling g mk a).vm } : State).setVm s₂.vm := rfl
      rw [e2] at this
      exact this
    obtain ⟨c₂, i₂, len₂, hc₂, hd₂, hf₂⟩ := hend
    have hW' : U.WarmedH s₂.vm := hW₂
    have hcc : c₂ = c := by
      have h1 : s₂.code? g.method = U.code? g.method := by
        rw [State.code?_eq, State.code?_eq, hW'.alike.method?]
      exact Option.some.inj (hc₂.symm.trans (h1.trans h.code))
    subst hcc
    have hlen : len₂ = len := by rw [hdg] at hd₂; cases hd₂; rfl
    subst hlen
    have hs₂ : s₂ = (({ U with heap := s₂.heap, slotsUsed := s₂.slotsUsed } : State).setVm s₂.vm).setTop { g with pc := g.pc + len₂, stack := v.toList ++ g.stack } := by
      refine e3.trans ?_
      rw [hf₂, State.calling_eq h.top, State.setFrames_setFrames, State.setTop_of_frames _ hr', hr]
      rfl
    have hsame : U.sameButNew ({ U with heap := s₂.heap, slotsUsed := s₂.slotsUsed } : State) L mc ms := by
      refine ⟨?_, q2, q3, q4, q5, q6⟩
      obtain ⟨t, ht, -⟩ := State.frames_cons hr
      show ({ U with heap := s₂.heap, slotsUsed := s₂.slotsUsed } : State) = { U.setFrames U.frames with heap := s₂.heap, slotsUsed := s₂.slotsUsed }
      rw [State.setFrames_self ht]
    subst hg
    refine Or.inl ⟨v, ⟨(({ U with heap := s₂.heap, slotsUsed := s₂.slotsUsed } : State).setVm s₂.vm), Ls ++ L, c0 + mc, s0 + ms⟩,
      ⟨X.admits, X.cas, X.clock, X.frames, X.room, X.hears, X.method, X.code, (X.here.setHeapUsed s₂.heap s₂.slotsUsed).setVm hW'.alike, X.tail, State.WarmedH.trans X.warmed hW', X.limits, X.bytes, X.same.trans (hsame.setVm s.vm)⟩,
      ⟨g, mk, s₂, L, rfl, rfl, hqc, rfl, hL, rfl, rfl⟩, ?_⟩
    show Steps p.tables e below _ ((({ U with heap := s₂.heap, slotsUsed := s₂.slotsUsed } : State).setVm s₂.vm).setTop { g with pc := g.pc + len₂, stack := v.toList ++ g.stack })
    rw [← hs₂]
    exact hsteps
  · obtain ⟨e2, q2, q3, q4, q5, q6⟩ := id hsm
    have e3 : s₂ = ({ (U.calling g mk a).setFrames s₂.frames with heap := s₂.heap, slotsUsed := s₂.slotsUsed } : State).setVm s₂.vm := by
      have : s₂ = ({ s₂ with vm := (U.calling g mk a).vm } : State).setVm s₂.vm := rfl
      rw [e2] at this
      exact this
    have hf₂ : s₂.frames = .throwing q :: .java g :: U.frames.tail := hend
    have hW' : U.WarmedH s₂.vm := hW₂
    have hs₂ : s₂ = ((({ U with heap := s₂.heap, slotsUsed := s₂.slotsUsed } : State).setVm s₂.vm).setTop g).pushFrame (.throwing q) := by
      refine e3.trans ?_
      rw [hf₂, State.calling_eq h.top, State.setFrames_setFrames, State.pushFrame, State.frames_setTop _ hr', State.setTop_of_frames _ hr', State.setFrames_setFrames, hr]
      rfl
    have hsame : U.sameButNew ({ U with heap := s₂.heap, slotsUsed := s₂.slotsUsed } : State) L mc ms := by
      refine ⟨?_, q2, q3, q4, q5, q6⟩
      obtain ⟨t, ht, -⟩ := State.frames_cons hr
      show ({ U with heap := s₂.heap, slotsUsed := s₂.slotsUsed } : State) = { U.setFrames U.frames with heap := s₂.heap, slotsUsed := s₂.slotsUsed }
      rw [State.setFrames_self ht]
    subst hg
    refine Or.inr ⟨q, ⟨(({ U with heap := s₂.heap, slotsUsed := s₂.slotsUsed } : State).setVm s₂.vm), Ls ++ L, c0 + mc, s0 + ms⟩,
      ⟨X.admits, X.cas, X.clock, X.frames, X.room, X.hears, X.method, X.code, (X.here.setHeapUsed s₂.heap s₂.slotsUsed).setVm hW'.alike, X.tail, State.WarmedH.trans X.warmed hW', X.limits, X.bytes, X.same.trans (hsame.setVm s.vm)⟩,
      ⟨g, mk, s₂, L, E, ce, rfl, rfl, hx, hce, hcv, hcl, rfl, hL, rfl, rfl⟩, ?_⟩
    show Steps p.tables e below _ (((({ U with heap := s₂.heap, slotsUsed := s₂.slotsUsed } : State).setVm s₂.vm).setTop g).pushFrame (.throwing q))
    rw [← hs₂]
    exact hsteps
end
variable {p : Program} {l : Launch} {e : Env} {R : Room} {s : State} {m : MethodId} {args : Array Value} {below : List Frame} {meth : Method} {c : Code} {T : State} {H : Heap} {locs : List Loc} {cells slots : Nat}
theorem vx_callVX (X : Stand p l e R s m args below meth c T locs cells slots) (hexec : p.tables.exec = Jvm.exec) {own C : String} {index : Nat} {y : MethodName} {bytes : ByteArray} {maxL : Nat} {ret : Option FieldType} {hh : List (Nat × Nat × Nat × Nat)}
    (hown : s.vm.findClass own = some m.cls) (hlink : (Cond.methodLink own index y).before args s = true) (hinst : (Cond.instanceMethod y).before args s = true) (hsel : (Cond.selects C y y).before args s = true)
    (hcode : (Cond.codeWith y bytes maxL ret hh).before args s = true) (hy : y.cls ≠ "java/lang/invoke/MethodHandle" ∧ y.cls ≠ "java/lang/invoke/VarHandle")
    {W9 : Nat} {Pre : Pt → Array Value → Prop} {Post : Pt → Array Value → Option Value → Pt → Prop} {PostX : Pt → Array Value → Addr → Pt → Prop} (hK : vx_Back l R p e below s args y 3 W9 Pre Post PostX)
    {b : Addr} {cellB : Cell} (hcell : T.heap[b]? = some cellB) (hobj : cellB.vm.isStatics = false) (hcls : s.vm.findClass C = some cellB.cls)
    {g : JFrame} (hg : g.method = m) (hsize : g.locals.size = c.maxLocals) {argsL rest : List Value} (hlen : ∀ sig, parseMethodDescriptor y.desc = some sig → argsL.length = sig.parameters.length)
    (hstack : g.stack = argsL.reverse ++ .ref b :: rest) (hW : 2 * g.monitorRoom + (rest.map fun v => v.category).sum ≤ W9) (hdg : decode c.code g.pc = .ok (.invokevirtual index, 3))
    (hpre : ∀ vm₁, s.WarmedH vm₁ → Pre ⟨T.setVm vm₁, locs, cells, slots⟩ (Value.ref b :: argsL).toArray) :
    (∃ (v : Option Value) (vm₁ : Vm) (B : Pt), s.WarmedH vm₁ ∧ Stand p l e R s m args below meth c B.U B.locs B.cells B.slots ∧ Post ⟨T.setVm vm₁, locs, cells, slots⟩ (Value.ref b :: argsL).toArray v B ∧
      ∀ target, Steps p.tables e below (B.U.setTop { g with pc := g.pc + 3, stack := v.toList ++ rest }) target → Steps p.tables e below (T.setTop g) target) ∨
    (∃ (q : Addr) (vm₁ : Vm) (B : Pt), s.WarmedH vm₁ ∧ Stand p l e R s m args below meth c B.U B.locs B.cells B.slots ∧ PostX ⟨T.setVm vm₁, locs, cells, slots⟩ (Value.ref b :: argsL).toArray q B ∧
      Steps p.tables e below (T.setTop g) ((B.U.setTop { g with stack := rest }).pushFrame (.throwing q))) := by
  obtain ⟨mk, methM, hnamed, hmethM, hstM, habM⟩ := Cond.instanceMethod_spec hinst
  obtain ⟨m8, methM', cM, hn8, hmethM', -, -, -, -, -, -, hsigM⟩ := Cond.codeWith_spec hcode
  cases Option.some.inj (hn8.symm.trans hnamed)
  cases hmethM.symm.trans hmethM'
  obtain ⟨c2, r2, m2, q1, q2, q3, q4, kP, hkP, hkPi⟩ := Cond.selects_spec hsel
  cases hcls.symm.trans q1
  cases (State.methodFound?_of_named hnamed hy).symm.trans q2
  cases hnamed.symm.trans q3
  have hselP : selectMethod e.platform s.vm cellB.cls mk = .method mk := by rw [Launch.admits_selectMethod X.admits]; exact q4
  obtain ⟨vm₁, X₁, hstep₁⟩ := X.invokevirtual hexec hown hlink hnamed hmethM hstM hkP hkPi hy (a := b) (cell := cellB) hcell
    (fun z h => by rw [h] at hobj; cases hobj) hselP hmethM habM hkP hkPi (g := g) hg (argsL := argsL) (rest := rest) (hlen _ hsigM) hstack hdg
  rcases hK m meth c ⟨T.setVm vm₁, locs, cells, slots⟩ { g with stack := rest } (.invokevirtual index) mk (Value.ref b :: argsL).toArray X₁ hg hsize hdg hW (X₁.named hnamed) (hpre vm₁ X₁.warmed) with ⟨v, B, X', hpost, hsteps⟩ | ⟨q, B, X', hpost, hsteps⟩
  · exact Or.inl ⟨v, vm₁, B, X₁.warmed, X', hpost, fun target h => hstep₁ _ fun acts => by rw [doInvoke_state]; exact hsteps.trans h⟩
  · exact Or.inr ⟨q, vm₁, B, X₁.warmed, X', hpost, hstep₁ _ fun acts => by rw [doInvoke_state]; exact hsteps⟩
theorem vx_callSX (X : Stand p l e R s m args below meth c T locs cells slots) (hexec : p.tables.exec = Jvm.exec) {own : String} {index : Nat} {y : MethodName} {bytes : ByteArray} {maxL : Nat} {ret : Option FieldType} {hh : List (Nat × Nat × Nat × Nat)}
    (hown : s.vm.findClass own = some m.cls) (hlink : (Cond.methodLink own index y).before args s = true) (hstat : (Cond.static y).before args s = true) (hinit : (Cond.initialized y.cls).before args s = true)
    (hcode : (Cond.codeWith y bytes maxL ret hh).before args s = true) (hy : y.cls ≠ "java/lang/invoke/MethodHandle" ∧ y.cls ≠ "java/lang/invoke/VarHandle")
    {W9 : Nat} {Pre : Pt → Array Value → Prop} {Post : Pt → Array Value → Option Value → Pt → Prop} {PostX : Pt → Array Value → Addr → Pt → Prop} (hK : vx_Back l R p e below s args y 3 W9 Pre Post PostX)
    {g : JFrame} (hg : g.method = m) (hsize : g.locals.size = c.maxLocals) {argsL rest : List Value} (hlen : ∀ sig, parseMethodDescriptor y.desc = some sig → argsL.length = sig.parameters.length)
    (hstack : g.stack = argsL.reverse ++ rest) (hW : 2 * g.monitorRoom + (rest.map fun v => v.category).sum ≤ W9) (hdg : decode c.code g.pc = .ok (.invokestatic index, 3))
    (hpre : ∀ vm₁, s.WarmedH vm₁ → Pre ⟨T.setVm vm₁, locs, cells, slots⟩ argsL.toArray) :
    (∃ (v : Option Value) (vm₁ : Vm) (B : Pt), s.WarmedH vm₁ ∧ Stand p l e R s m args below meth c B.U B.locs B.cells B.slots ∧ Post ⟨T.setVm vm₁, locs, cells, slots⟩ argsL.toArray v B ∧
      ∀ target, Steps p.tables e below (B.U.setTop { g with pc := g.pc + 3, stack := v.toList ++ rest }) target → Steps p.tables e below (T.setTop g) target) ∨
    (∃ (q : Addr) (vm₁ : Vm) (B : Pt), s.WarmedH vm₁ ∧ Stand p l e R s m args below meth c B.U B.locs B.cells B.slots ∧ PostX ⟨T.setVm vm₁, locs, cells, slots⟩ argsL.toArray q B ∧
      Steps p.tables e below (T.setTop g) ((B.U.setTop { g with stack := rest }).pushFrame (.throwing q))) := by
  obtain ⟨mk, methM, cM, hnamed, hmethM, -, -, -, -, -, -, hsigM⟩ := Cond.codeWith_spec hcode
  have hstatic : methM.isStatic = true := Cond.static_spec hnamed hmethM hstat
  obtain ⟨kP, hkP, -⟩ := className_of_methodNamed hnamed
  have hinitP : kP.init = .initialized := Cond.initialized_spec (findClass_of_methodNamed hnamed) hkP hinit
  obtain ⟨vm₁, X₁, hstep₁⟩ := X.invokestatic hexec hown hlink hnamed hmethM hstatic hkP hinitP hy (g := g) hg (argsL := argsL) (rest := rest) (hlen _ hsigM) hstack hdg
  rcases hK m meth c ⟨T.setVm vm₁, locs, cells, slots⟩ { g with stack := rest } (.invokestatic index) mk argsL.toArray X₁ hg hsize hdg hW (X₁.named hnamed) (hpre vm₁ X₁.warmed) with ⟨v, B, X', hpost, hsteps⟩ | ⟨q, B, X', hpost, hsteps⟩
  · exact Or.inl ⟨v, vm₁, B, X₁.warmed, X', hpost, fun target h => hstep₁ _ fun acts => by rw [doInvoke_state]; exact hsteps.trans h⟩
  · exact Or.inr ⟨q, vm₁, B, X₁.warmed, X', hpost, hstep₁ _ fun acts => by rw [doInvoke_state]; exact hsteps⟩
theorem vx_callVW (X : Stand p l e R s m args below meth c T locs cells slots) (hexec : p.tables.exec = Jvm.exec) {own C : String} {index : Nat} {y : MethodName} {bytes : ByteArray} {maxL : Nat} {ret : Option FieldType} {hh : List (Nat × Nat × Nat × Nat)}
    (hown : s.vm.findClass own = some m.cls) (hlink : (Cond.methodLink own index y).before args s = true) (hinst : (Cond.instanceMethod y).before args s = true) (hsel : (Cond.selects C y y).before args s = true)
    (hcode : (Cond.codeWith y bytes maxL ret hh).before args s = true) (hy : y.cls ≠ "java/lang/invoke/MethodHandle" ∧ y.cls ≠ "java/lang/invoke/VarHandle")
    {W9 : Nat} {Pre : Pt → Array Value → Prop} {Post : Pt → Array Value → Option Value → Pt → Prop} (hK : Back l R p e below s args y 3 W9 Pre Post)
    {b : Addr} {cellB : Cell} (hcell : T.heap[b]? = some cellB) (hobj : cellB.vm.isStatics = false) (hcls : s.vm.findClass C = some cellB.cls)
    {g : JFrame} (hg : g.method = m) (hsize : g.locals.size = c.maxLocals) {argsL rest : List Value} (hlen : ∀ sig, parseMethodDescriptor y.desc = some sig → argsL.length = sig.parameters.length)
    (hstack : g.stack = argsL.reverse ++ .ref b :: rest) (hW : 2 * g.monitorRoom + (rest.map fun v => v.category).sum ≤ W9) (hdg : decode c.code g.pc = .ok (.invokevirtual index, 3))
    (hpre : ∀ vm₁, s.WarmedH vm₁ → Pre ⟨T.setVm vm₁, locs, cells, slots⟩ (Value.ref b :: argsL).toArray) :
    ∃ (v : Option Value) (vm₁ : Vm) (B : Pt), s.WarmedH vm₁ ∧ Stand p l e R s m args below meth c B.U B.locs B.cells B.slots ∧ Post ⟨T.setVm vm₁, locs, cells, slots⟩ (Value.ref b :: argsL).toArray v B ∧
      ∀ target, Steps p.tables e below (B.U.setTop { g with pc := g.pc + 3, stack := v.toList ++ rest }) target → Steps p.tables e below (T.setTop g) target := by
  obtain ⟨mk, methM, hnamed, hmethM, hstM, habM⟩ := Cond.instanceMethod_spec hinst
  obtain ⟨m8, methM', cM, hn8, hmethM', -, -, -, -, -, -, hsigM⟩ := Cond.codeWith_spec hcode
  cases Option.some.inj (hn8.symm.trans hnamed)
  cases hmethM.symm.trans hmethM'
  obtain ⟨c2, r2, m2, q1, q2, q3, q4, kP, hkP, hkPi⟩ := Cond.selects_spec hsel
  cases hcls.symm.trans q1
  cases (State.methodFound?_of_named hnamed hy).symm.trans q2
  cases hnamed.symm.trans q3
  have hselP : selectMethod e.platform s.vm cellB.cls mk = .method mk := by rw [Launch.admits_selectMethod X.admits]; exact q4
  obtain ⟨vm₁, X₁, hstep₁⟩ := X.invokevirtual hexec hown hlink hnamed hmethM hstM hkP hkPi hy (a := b) (cell := cellB) hcell
    (fun z h => by rw [h] at hobj; cases hobj) hselP hmethM habM hkP hkPi (g := g) hg (argsL := argsL) (rest := rest) (hlen _ hsigM) hstack hdg
  obtain ⟨v, B, X', hpost, hsteps⟩ := hK m meth c ⟨T.setVm vm₁, locs, cells, slots⟩ { g with stack := rest } (.invokevirtual index) mk (Value.ref b :: argsL).toArray X₁ hg hsize hdg hW (X₁.named hnamed) (hpre vm₁ X₁.warmed)
  exact ⟨v, vm₁, B, X₁.warmed, X', hpost, fun target h => hstep₁ _ fun acts => by rw [doInvoke_state]; exact hsteps.trans h⟩
abbrev vx_CVW (R : Room) (s : State) (args : Array Value) (own C : String) (index : Nat) (y : MethodName) (bytes : ByteArray) (maxL : Nat) (ret : Option FieldType) (hh : List (Nat × Nat × Nat × Nat)) (ws : List Cond) (rm : Room) (mc ms n : Nat) : Prop :=
  (rm.cells = mc ∧ rm.slots = ms ∧ rm.frames + 1 ≤ R.frames ∧ 8 + (maxL + 11) + rm.locals ≤ R.locals ∧ (∀ w ∈ ws, ∀ (a' : Array Value) (U : State), s.WarmedH U.vm → w.before a' U = true) ∧ Cond.codeWith y bytes maxL ret hh ∈ ws) ∧
  (Cond.codeWith y bytes maxL ret hh).before args s = true ∧ (Cond.initialized y.cls).before args s = true ∧ (y.cls ≠ "java/lang/invoke/MethodHandle" ∧ y.cls ≠ "java/lang/invoke/VarHandle") ∧
  (∀ sig, parseMethodDescriptor y.desc = some sig → n = sig.parameters.length) ∧ (Cond.methodLink own index y).before args s = true ∧ (Cond.instanceMethod y).before args s = true ∧ (Cond.selects C y y).before args s = true
theorem vx_cwVW {own C : String} {index maxL mc ms : Nat} {y : MethodName} {bytes : ByteArray} {ret : Option FieldType} {hh : List (Nat × Nat × Nat × Nat)} {Ts ws ws' : List Cond} {rm : Room} (n : Nat) (ht : ∀ w ∈ Ts, w.before args s = true) (hT : GoodIn Ts (wsV own index C y ws)) (hw : ws = Cond.codeWith y bytes maxL ret hh :: ws') (hrc : rm.cells = mc) (hrs : rm.slots = ms)
    (hd : y.cls = C ∧ y.cls ≠ "java/lang/invoke/MethodHandle" ∧ y.cls ≠ "java/lang/invoke/VarHandle" ∧ (parseMethodDescriptor y.desc).map (fun d => d.parameters.length) = some n) (hR : rm.frames + 1 ≤ R.frames ∧ 8 + (maxL + 11) + rm.locals ≤ R.locals) :
    vx_CVW R s args own C index y bytes maxL ret hh ws rm mc ms n := by
  obtain ⟨hC, hd⟩ := hd
  subst hC
  have ok : ∀ w ∈ wsV own index y.cls y ws, w.before args s = true := fun w h => ht w (hT w h).1
  have hG : GoodIn Ts ws := fun w h => hT w (by unfold wsV; exact List.mem_append_right _ h)
  have hc : Cond.codeWith y bytes maxL ret hh ∈ ws := by rw [hw]; exact List.mem_cons_self
  refine ⟨⟨hrc, hrs, hR.1, hR.2, pay_in ht hG, hc⟩, ht _ (hG _ hc).1, ok _ (by simp [wsV]), ⟨hd.1, hd.2.1⟩, fun sig h => ?_, ok _ (by simp [wsV]), ok _ (by simp [wsV]), ok _ (by simp [wsV])⟩
  have h2 := hd.2.2
  rw [h] at h2
  exact (Option.some.inj h2).symm
theorem vx_runVW {y : MethodName} {bytes cc : ByteArray} {maxL nL mc ms n index : Nat} {ret : Option FieldType} {hh : List (Nat × Nat × Nat × Nat)} {ws : List Cond} {rm : Room} {Pc : Array Value → State → Prop} {Qc : Array Value → State → Outcome → State → Prop} {free : Addr → Prop} {Ts : List Cond} {own C : String} {b : Addr} {As rest : List Value} {g : JFrame}
    (S : CallFix p m c cc nL s args Ts own) (hM : Met l y ws rm Pc Qc mc ms free) (cw : vx_CVW R s args own C index y bytes maxL ret hh ws rm mc ms n) (hp : PreV s H C b Pc As)
    (hg : g.method = m) (hn : As.length = n) (hsize : g.locals.size = nL) (hstack : g.stack = As.reverse ++ .ref b :: rest) (hW : 2 * g.monitorRoom + (rest.map fun v => v.category).sum ≤ 8) (hdg : decode cc g.pc = .ok (.invokevirtual index, 3)) (hf : cells + mc ≤ R.cells ∧ slots + ms ≤ R.slots) :
    va_Run p l e R s m args below meth c H locs cells slots mc ms g rest (Qc (Value.ref b :: As).toArray) free := by
  obtain ⟨⟨hrc, hrs, hfr, hlo, hws, hcw⟩, hcode, hini, hy, hlen, hl, hin, hse⟩ := cw
  have hK : Back l R p e below s args y 3 8 (PreOf R mc ms Pc) (PostOf Qc mc ms free) := va_backW (hh := hh) (bytes := bytes) (maxL := maxL) (ret := ret) hM hp.1 hrc hrs hfr hlo hws hcw (fun a' U hW => word_at hW (Or.inl (by first | rfl | simp [Cond.onTables, Cond.keeps, Cond.steady])) hini)
  obtain ⟨hx, hb, hml, ho, -⟩ := S
  obtain ⟨-, ⟨cellB, hcB, hoB, hclB⟩, hPc⟩ := hp
  intro T hT X
  obtain ⟨v, vm₁, ⟨U', l2, c2, s2⟩, hW₁, X', ⟨g', mk, t, L, e1, e2, hq, h1, hL, h2, h3⟩, st⟩ := vx_callVW X hx (C := C) (hh := hh) (bytes := bytes) (maxL := maxL) (ret := ret) ho hl hin hse hcode hy hK (by rw [hT]; exact hcB) hoB hclB hg (hsize.trans hml.symm) (argsL := As) (rest := rest) (fun sig h => hn.trans (hlen sig h)) hstack hW (by rw [hb]; exact hdg)
    (fun vm₁ hW₁ => ⟨hf.1, hf.2, hPc (T.setVm vm₁) hT hW₁⟩)
  dsimp only [Pt.U, Pt.locs, Pt.cells, Pt.slots] at X' e1 e2 h1 h2 h3 st
  subst h1; subst h2; subst h3
  exact ⟨v, (T.setVm vm₁).calling g' mk (Value.ref b :: As).toArray, t, U', L, hT, X', hL, e1, e2, hq, st⟩
section
variable {y : MethodName} {bytes cc : ByteArray} {maxL nL mc ms n index : Nat} {ret : Option FieldType} {ws : List Cond} {rm : Room} {Pc : Array Value → State → Prop} {Qc : Array Value → State → Outcome → State → Prop} {XC : String → State → State → Prop} {free : Addr → Prop} {Ts : List Cond} {own C : String} {b : Addr} {As rest : List Value} {g : JFrame}
theorem vx_runVX {hh : List (Nat × Nat × Nat × Nat)} (S : CallFix p m c cc nL s args Ts own) (hM : vx_Met l y ws rm Pc Qc XC mc ms free) (cw : vx_CVW R s args own C index y bytes maxL ret hh ws rm mc ms n) (hp : PreV s H C b Pc As)
    (hg : g.method = m) (hn : As.length = n) (hsize : g.locals.size = nL) (hstack : g.stack = As.reverse ++ .ref b :: rest) (hW : 2 * g.monitorRoom + (rest.map fun v => v.category).sum ≤ 8) (hdg : decode cc g.pc = .ok (.invokevirtual index, 3)) (hf : cells + mc ≤ R.cells ∧ slots + ms ≤ R.slots) :
    vx_Run p l e R s m args below meth c H locs cells slots mc ms g rest (Qc (Value.ref b :: As).toArray) XC free := by
  obtain ⟨⟨hrc, hrs, hfr, hlo, hws, hcw⟩, hcode, hini, hy, hlen, hl, hin, hse⟩ := cw
  have hK : vx_Back l R p e below s args y 3 8 (PreOf R mc ms Pc) (PostOf Qc mc ms free) (vx_Post XC mc ms free) := vx_backW (hh := hh) (bytes := bytes) (maxL := maxL) (ret := ret) hM hp.1 hrc hrs hfr hlo hws hcw (fun a' U hW => word_at hW (Or.inl (by first | rfl | simp [Cond.onTables, Cond.keeps, Cond.steady])) hini)
  obtain ⟨hx, hb, hml, ho, -⟩ := S
  obtain ⟨-, ⟨cellB, hcB, hoB, hclB⟩, hPc⟩ := hp
  intro T hT X
  rcases vx_callVX X hx (C := C) (hh := hh) (bytes := bytes) (maxL := maxL) (ret := ret) ho hl hin hse hcode hy hK (by rw [hT]; exact hcB) hoB hclB hg (hsize.trans hml.symm) (argsL := As) (rest := rest) (fun sig h => hn.trans (hlen sig h)) hstack hW (by rw [hb]; exact hdg)
    (fun vm₁ hW₁ => ⟨hf.1, hf.2, hPc (T.setVm vm₁) hT hW₁⟩) with ⟨v, vm₁, ⟨U', l2, c2, s2⟩, hW₁, X', ⟨g', mk, t, L, e1, e2, hq, h1, hL, h2, h3⟩, st⟩ | ⟨q, vm₁, ⟨U', l2, c2, s2⟩, hW₁, X', ⟨g', mk, t, L, E, ce, e1, e2, hq, hce, hcv, hcl, h1, hL, h2, h3⟩, st⟩
  · dsimp only [Pt.U, Pt.locs, Pt.cells, Pt.slots] at X' e1 e2 h1 h2 h3 st
    subst h1; subst h2; subst h3
    exact Or.inl ⟨v, (T.setVm vm₁).calling g' mk (Value.ref b :: As).toArray, t, U', L, hT, X', hL, e1, e2, hq, st⟩
  · dsimp only [Pt.U, Pt.locs, Pt.cells, Pt.slots] at X' e1 e2 h1 h2 h3 st hcl
    subst h1; subst h2; subst h3
    exact Or.inr ⟨q, (T.setVm vm₁).calling g' mk (Value.ref b :: As).toArray, t, U', L, E, ce, hT, X', hL, e1, e2, hq, hce, hcv, vx_cls hW₁ hcl, st⟩
theorem vx_runSX {hh : List (Nat × Nat × Nat × Nat)} (S : CallFix p m c cc nL s args Ts own) (hM : vx_Met l y ws rm Pc Qc XC mc ms free) (cw : vx_CSW R s args own index y bytes maxL ret hh ws rm mc ms n) (hp : PreS s H Pc As)
    (hg : g.method = m) (hn : As.length = n) (hsize : g.locals.size = nL) (hstack : g.stack = As.reverse ++ rest) (hW : 2 * g.monitorRoom + (rest.map fun v => v.category).sum ≤ 8) (hdg : decode cc g.pc = .ok (.invokestatic index, 3)) (hf : cells + mc ≤ R.cells ∧ slots + ms ≤ R.slots) :
    vx_Run p l e R s m args below meth c H locs cells slots mc ms g rest (Qc As.toArray) XC free := by
  obtain ⟨⟨hrc, hrs, hfr, hlo, hws, hcw⟩, hcode, hini, hy, hlen, hl, hstt⟩ := cw
  have hK : vx_Back l R p e below s args y 3 8 (PreOf R mc ms Pc) (PostOf Qc mc ms free) (vx_Post XC mc ms free) := vx_backW (hh := hh) (bytes := bytes) (maxL := maxL) (ret := ret) hM hp.1 hrc hrs hfr hlo hws hcw (fun a' U hW => word_at hW (Or.inl (by first | rfl | simp [Cond.onTables, Cond.keeps, Cond.steady])) hini)
  obtain ⟨hx, hb, hml, ho, -⟩ := S
  intro T hT X
  rcases vx_callSX X hx (hh := hh) (bytes := bytes) (maxL := maxL) (ret := ret) ho hl hstt hini hcode hy hK hg (hsize.trans hml.symm) (argsL := As) (rest := rest) (fun sig h => hn.trans (hlen sig h)) hstack hW (by rw [hb]; exact hdg)
    (fun vm₁ hW₁ => ⟨hf.1, hf.2, hp.2 (T.setVm vm₁) hT hW₁⟩) with ⟨v, vm₁, ⟨U', l2, c2, s2⟩, hW₁, X', ⟨g', mk, t, L, e1, e2, hq, h1, hL, h2, h3⟩, st⟩ | ⟨q, vm₁, ⟨U', l2, c2, s2⟩, hW₁, X', ⟨g', mk, t, L, E, ce, e1, e2, hq, hce, hcv, hcl, h1, hL, h2, h3⟩, st⟩
  · dsimp only [Pt.U, Pt.locs, Pt.cells, Pt.slots] at X' e1 e2 h1 h2 h3 st
    subst h1; subst h2; subst h3
    exact Or.inl ⟨v, (T.setVm vm₁).calling g' mk As.toArray, t, U', L, hT, X', hL, e1, e2, hq, st⟩
  · dsimp only [Pt.U, Pt.locs, Pt.cells, Pt.slots] at X' e1 e2 h1 h2 h3 st hcl
    subst h1; subst h2; subst h3
    exact Or.inr ⟨q, (T.setVm vm₁).calling g' mk As.toArray, t, U', L, E, ce, hT, X', hL, e1, e2, hq, hce, hcv, vx_cls hW₁ hcl, st⟩
end
end VXH
theorem vx_ofWH {l : Launch} {y : MethodName} {ws ws' : List Cond} {rm : Room} {Pc : Array Value → State → Prop} {Qc : Array Value → State → Outcome → State → Prop} {XC : String → State → State → Prop} {mc ms : Nat} {free : Addr → Prop} {cc : ByteArray} {maxL : Nat} {ret : Option FieldType} {hh : List (Nat × Nat × Nat × Nat)}
    (hy : plainName y.cls = true) (hw : ws = Cond.codeWith y cc maxL ret hh :: ws')
    (body : ∀ p e s m args below meth c s₁, BodyLoose p l y (headSpec ws rm) cc maxL ret e s m args below meth c s₁ → c.maxLocals = maxL → Pc args s →
      W p l e (headSpec ws rm).room s m args below meth c s.heap [] 0 0 (vx_MQ below Qc XC args s mc ms free) (entryFrame m args maxL)) : vx_Met l y ws rm Pc Qc XC mc ms free := by
  refine MetFree.of_bodyS (code := cc) (maxLocals := maxL) (ret := ret) hy ?_ ?_
  · intro args s m h hn
    obtain ⟨m9, meth, c, hn9, h1, h2, h3, h4, -, h5, h6, -⟩ := Cond.codeWith_spec (atoms_spec (ws := ws) h _ (by rw [hw]; exact List.mem_cons_self))
    cases hn.symm.trans hn9
    exact ⟨meth, c, h1, h2, h3, h4, h5, h6⟩
  · intro p e s m args below meth c s₁ B hml hP _
    have hh0 : s₁.heap = s.heap := by rw [B.state]; rfl
    obtain ⟨t, a1, o, b1, b2, b3⟩ := body p e s m args below meth c s₁ B hml hP s₁ hh0 (Stand.of_body B)
    exact ⟨t, o, a1, b1, b2, b3⟩
/-! ===== END ===== -/
end
section
/-! ===== THE PURE MACHINE (1): locals, stack, steps that leave the world alone ===== -/
abbrev pmL : Type := List (Option Value)
def pmGet : pmL → Nat → Option Value
  | [], _ => none
  | o :: _, 0 => o
  | _ :: r, i + 1 => pmGet r i
def pmIs2 : Option Value → Bool
  | some (.long _) => true
  | some (.double _) => true
  | _ => false
def pmKl (o : Option Value) : Option Value := match pmIs2 o with
  | true => none
  | false => o
/-- a value of one word is stored at a place -/
def pmSet (v : Value) : Nat → pmL → pmL
  | _, [] => []
  | 0, _ :: r => some v :: r
  | 1, o :: r => pmKl o :: pmSet v 0 r
  | i + 2, o :: r => o :: pmSet v (i + 1) r
def pmNx : pmL → pmL
  | [] => []
  | _ :: r => none :: r
/-- a value of two words is stored at a place and the next -/
def pmSet2 (v : Value) : Nat → pmL → pmL
  | _, [] => []
  | 0, _ :: r => some v :: pmNx r
  | 1, o :: r => pmKl o :: pmSet2 v 0 r
  | i + 2, o :: r => o :: pmSet2 v (i + 1) r
def pmDel : Nat → pmL → pmL
  | _, [] => []
  | 0, _ :: r => none :: r
  | i + 1, o :: r => o :: pmDel i r
/-- references of the pure machine are numbers of its own; φ says where they lie -/
def pmV (φ : Nat → Nat) : Value → Value
  | .ref a => .ref (φ a)
  | v => v
theorem pmV_cat (φ : Nat → Nat) (v : Value) : (pmV φ v).category = v.category := by cases v <;> rfl
theorem pmGet_eq (l : pmL) (i : Nat) : pmGet l i = (l[i]?).getD none := by
  induction l generalizing i with
  | nil => simp [pmGet]
  | cons o r ih => cases i <;> simp [pmGet, ih]
theorem pmIs2_cat {o : Option Value} {v : Value} (h : o = some v) : pmIs2 o = (v.category == 2) := by subst h; cases v <;> rfl
theorem pmKl_some {o : Option Value} {v : Value} (h : pmKl o = some v) : o = some v ∧ ¬ v.category = 2 := by
  unfold pmKl at h
  split at h
  · cases h
  · rename_i h2
    subst h
    rw [pmIs2_cat rfl] at h2
    simpa using h2
theorem pmSet_len (v : Value) : ∀ (i : Nat) (l : pmL), (pmSet v i l).length = l.length
  | _, [] => by simp [pmSet]
  | 0, _ :: r => by simp [pmSet]
  | 1, o :: r => by simp [pmSet, pmSet_len v 0 r]
  | i + 2, o :: r => by simp [pmSet, pmSet_len v (i + 1) r]
theorem pmNx_len : ∀ l : pmL, (pmNx l).length = l.length
  | [] => rfl
  | _ :: _ => rfl
theorem pmSet2_len (v : Value) : ∀ (i : Nat) (l : pmL), (pmSet2 v i l).length = l.length
  | _, [] => by simp [pmSet2]
  | 0, _ :: r => by simp [pmSet2, pmNx_len]
  | 1, o :: r => by simp [pmSet2, pmSet2_len v 0 r]
  | i + 2, o :: r => by simp [pmSet2, pmSet2_len v (i + 1) r]
theorem pmDel_len : ∀ (i : Nat) (l : pmL), (pmDel i l).length = l.length
  | _, [] => by simp [pmDel]
  | 0, _ :: r => by simp [pmDel]
  | i + 1, o :: r => by simp [pmDel, pmDel_len i r]
theorem pmSet_get (v u : Value) : ∀ (i j : Nat) (l : pmL), pmGet (pmSet v i l) j = some u → (j = i ∧ u = v) ∨ (j ≠ i ∧ pmGet l j = some u ∧ ¬ (j + 1 = i ∧ u.category = 2))
  | _, _, [], h => by simp [pmSet, pmGet] at h
  | 0, 0, _ :: r, h => by simp [pmSet, pmGet] at h; exact Or.inl ⟨rfl, h.symm⟩
  | 0, j + 1, _ :: r, h => by simp [pmSet, pmGet] at h; exact Or.inr ⟨by omega, by simpa [pmGet] using h, by omega⟩
  | 1, 0, o :: r, h => by
    simp only [pmSet, pmGet] at h
    obtain ⟨h1, h2⟩ := pmKl_some h
    exact Or.inr ⟨by omega, by simpa [pmGet] using h1, fun q => h2 q.2⟩
  | 1, j + 1, o :: r, h => by
    simp only [pmSet, pmGet] at h
    rcases pmSet_get v u 0 j r h with ⟨a, b⟩ | ⟨a, b, d⟩
    · exact Or.inl ⟨by omega, b⟩
    · exact Or.inr ⟨by omega, by simpa [pmGet] using b, by omega⟩
  | i + 2, 0, o :: r, h => by
    simp only [pmSet, pmGet] at h
    exact Or.inr ⟨by omega, by simpa [pmGet] using h, by omega⟩
  | i + 2, j + 1, o :: r, h => by
    simp only [pmSet, pmGet] at h
    rcases pmSet_get v u (i + 1) j r h with ⟨a, b⟩ | ⟨a, b, d⟩
    · exact Or.inl ⟨by omega, b⟩
    · exact Or.inr ⟨by omega, by simpa [pmGet] using b, fun q => d ⟨by omega, q.2⟩⟩
theorem pmNx_get (u : Value) : ∀ (j : Nat) (l : pmL), pmGet (pmNx l) j = some u → j ≠ 0 ∧ pmGet l j = some u
  | _, [], h => by simp [pmNx, pmGet] at h
  | 0, _ :: r, h => by simp [pmNx, pmGet] at h
  | j + 1, _ :: r, h => by simp [pmNx, pmGet] at h; exact ⟨by omega, by simpa [pmGet] using h⟩
theorem pmSet2_get (v u : Value) : ∀ (i j : Nat) (l : pmL), pmGet (pmSet2 v i l) j = some u → (j = i ∧ u = v) ∨ (j ≠ i ∧ j ≠ i + 1 ∧ pmGet l j = some u ∧ ¬ (j + 1 = i ∧ u.category = 2))
  | _, _, [], h => by simp [pmSet2, pmGet] at h
  | 0, 0, _ :: r, h => by simp [pmSet2, pmGet] at h; exact Or.inl ⟨rfl, h.symm⟩
  | 0, j + 1, _ :: r, h => by
    simp only [pmSet2, pmGet] at h
    obtain ⟨h1, h2⟩ := pmNx_get u j r h
    exact Or.inr ⟨by omega, by omega, by simpa [pmGet] using h2, by omega⟩
  | 1, 0, o :: r, h => by
    simp only [pmSet2, pmGet] at h
    obtain ⟨h1, h2⟩ := pmKl_some h
    exact Or.inr ⟨by omega, by omega, by simpa [pmGet] using h1, fun q => h2 q.2⟩
  | 1, j + 1, o :: r, h => by
    simp only [pmSet2, pmGet] at h
    rcases pmSet2_get v u 0 j r h with ⟨a, b⟩ | ⟨a, a2, b, d⟩
    · exact Or.inl ⟨by omega, b⟩
    · exact Or.inr ⟨by omega, by omega, by simpa [pmGet] using b, by omega⟩
  | i + 2, 0, o :: r, h => by
    simp only [pmSet2, pmGet] at h
    exact Or.inr ⟨by omega, by omega, by simpa [pmGet] using h, by omega⟩
  | i + 2, j + 1, o :: r, h => by
    simp only [pmSet2, pmGet] at h
    rcases pmSet2_get v u (i + 1) j r h with ⟨a, b⟩ | ⟨a, a2, b, d⟩
    · exact Or.inl ⟨by omega, b⟩
    · exact Or.inr ⟨by omega, by omega, by simpa [pmGet] using b, fun q => d ⟨by omega, q.2⟩⟩
theorem pmDel_get (u : Value) : ∀ (i j : Nat) (l : pmL), pmGet (pmDel i l) j = some u → j ≠ i ∧ pmGet l j = some u
  | _, _, [], h => by simp [pmDel, pmGet] at h
  | 0, 0, _ :: r, h => by simp [pmDel, pmGet] at h
  | 0, j + 1, _ :: r, h => by simp [pmDel, pmGet] at h; exact ⟨by omega, by simpa [pmGet] using h⟩
  | i + 1, 0, o :: r, h => by simp [pmDel, pmGet] at h; exact ⟨by omega, by simpa [pmGet] using h⟩
  | i + 1, j + 1, o :: r, h => by
    simp only [pmDel, pmGet] at h
    obtain ⟨h1, h2⟩ := pmDel_get u i j r h
    exact ⟨by omega, by simpa [pmGet] using h2⟩
/-- the locals as the kit lists them -/
def pmLv (φ : Nat → Nat) (l : pmL) : List (Nat × Value) := (List.range l.length).filterMap (fun i => (pmGet l i).map (fun v => (i, pmV φ v)))
theorem pmGet_lt {l : pmL} {i : Nat} {v : Value} (h : pmGet l i = some v) : i < l.length := by
  rw [pmGet_eq] at h
  cases hq : l[i]? with
  | none => rw [hq] at h; cases h
  | some o => exact (List.getElem?_eq_some_iff.mp hq).1
theorem pmLv_mem {φ : Nat → Nat} {l : pmL} {q : Nat × Value} : q ∈ pmLv φ l ↔ ∃ v, pmGet l q.1 = some v ∧ q.2 = pmV φ v := by
  unfold pmLv
  rw [List.mem_filterMap]
  constructor
  · rintro ⟨i, -, h⟩
    cases hg : pmGet l i with
    | none => rw [hg] at h; cases h
    | some v =>
      rw [hg] at h
      cases h
      exact ⟨v, hg, rfl⟩
  · rintro ⟨v, h1, h2⟩
    refine ⟨q.1, List.mem_range.mpr (pmGet_lt h1), ?_⟩
    rw [h1]
    show some (q.1, pmV φ v) = some q
    rw [← h2]
theorem pmLv_at {φ : Nat → Nat} {l : pmL} {ls : Array Slot} {nL i : Nat} {v : Value} (h : lv_has ls nL (pmLv φ l)) (hg : pmGet l i = some v) : ls[i]? = some (.val (pmV φ v)) := h.2.2 (i, pmV φ v) (pmLv_mem.mpr ⟨v, hg, rfl⟩)
theorem pmLv_set {φ : Nat → Nat} {l : pmL} {ls : Array Slot} {nL i : Nat} {v : Value} (h : lv_has ls nL ((i, pmV φ v) :: (pmLv φ l).filter (fun q => !(q.1 == i) && !(q.1 + 1 == i && q.2.category == 2)))) : lv_has ls nL (pmLv φ (pmSet v i l)) := by
  refine ⟨h.1, h.2.1, fun q hq => ?_⟩
  obtain ⟨u, h1, h2⟩ := pmLv_mem.mp hq
  refine h.2.2 q ?_
  rcases pmSet_get v u i q.1 l h1 with ⟨a, b⟩ | ⟨a, b, d⟩
  · refine List.mem_cons.mpr (Or.inl ?_)
    rw [b] at h2
    exact Prod.ext a h2
  · refine List.mem_cons_of_mem _ (List.mem_filter.mpr ⟨pmLv_mem.mpr ⟨u, b, h2⟩, ?_⟩)
    have hc : q.2.category = u.category := by rw [h2]; exact pmV_cat φ u
    rw [hc]
    simp only [Bool.and_eq_true, Bool.not_eq_true', beq_eq_false_iff_ne, ne_eq, Bool.and_eq_false_iff]
    refine ⟨a, ?_⟩
    by_cases e : q.1 + 1 = i
    · exact Or.inr (fun z => d ⟨e, z⟩)
    · exact Or.inl e
theorem pmLv_set2 {φ : Nat → Nat} {l : pmL} {ls : Array Slot} {nL i : Nat} {v : Value} (h : lv_has ls nL ((i, pmV φ v) :: (pmLv φ l).filter (fun q => !(q.1 == i) && (!(q.1 == i + 1) && !(q.1 + 1 == i && q.2.category == 2))))) : lv_has ls nL (pmLv φ (pmSet2 v i l)) := by
  refine ⟨h.1, h.2.1, fun q hq => ?_⟩
  obtain ⟨u, h1, h2⟩ := pmLv_mem.mp hq
  refine h.2.2 q ?_
  rcases pmSet2_get v u i q.1 l h1 with ⟨a, b⟩ | ⟨a, a2, b, d⟩
  · refine List.mem_cons.mpr (Or.inl ?_)
    rw [b] at h2
    exact Prod.ext a h2
  · refine List.mem_cons_of_mem _ (List.mem_filter.mpr ⟨pmLv_mem.mpr ⟨u, b, h2⟩, ?_⟩)
    have hc : q.2.category = u.category := by rw [h2]; exact pmV_cat φ u
    rw [hc]
    simp only [Bool.and_eq_true, Bool.not_eq_true', beq_eq_false_iff_ne, ne_eq, Bool.and_eq_false_iff]
    refine ⟨a, a2, ?_⟩
    by_cases e : q.1 + 1 = i
    · exact Or.inr (fun z => d ⟨e, z⟩)
    · exact Or.inl e
theorem pmLv_del {φ : Nat → Nat} {l : pmL} {ls : Array Slot} {nL i : Nat} {x : Value} (h : lv_has ls nL ((i, x) :: (pmLv φ l).filter (fun q => !(q.1 == i) && !(q.1 + 1 == i && q.2.category == 2)))) (h2 : ∀ v, pmGet l (i - 1) = some v → 0 < i → ¬ v.category = 2) : lv_has ls nL (pmLv φ (pmDel i l)) := by
  refine ⟨h.1, h.2.1, fun q hq => ?_⟩
  obtain ⟨u, h1, h3⟩ := pmLv_mem.mp hq
  obtain ⟨a, b⟩ := pmDel_get u i q.1 l h1
  refine h.2.2 q (List.mem_cons_of_mem _ (List.mem_filter.mpr ⟨pmLv_mem.mpr ⟨u, b, h3⟩, ?_⟩))
  have hc : q.2.category = u.category := by rw [h3]; exact pmV_cat φ u
  rw [hc]
  simp only [Bool.and_eq_true, Bool.not_eq_true', beq_eq_false_iff_ne, ne_eq, Bool.and_eq_false_iff]
  refine ⟨a, ?_⟩
  by_cases e : q.1 + 1 = i
  · exact Or.inr (h2 u (by rw [← e]; simpa using b) (by omega))
  · exact Or.inl e
/-- a step that leaves the world alone: x, k are what the instruction names (a place, a target, a number) -/
def pmA (i : Instr) (x : Nat) (k : Int32) (pc : Nat) (l : pmL) (st : List Value) : Option (Nat × pmL × List Value) :=
  match i with
  | .iconst n => some (pc + 1, l, .int k :: st)
  | .bipush n => some (pc + 2, l, .int k :: st)
  | .sipush n => some (pc + 3, l, .int k :: st)
  | .lconst n => some (pc + 1, l, .long (Int64.ofNat x) :: st)
  | .ldc n => some (pc + 2, l, .int k :: st)
  | .ldc_w n => some (pc + 3, l, .int k :: st)
  | .ldc2_w n => some (pc + 3, l, .long (Int64.ofNat x) :: st)
  | .iload n => (match pmGet l x with
    | some (.int v) => some (pc + 2, l, .int v :: st)
    | _ => none)
  | .iload_n n => (match pmGet l x with
    | some (.int v) => some (pc + 1, l, .int v :: st)
    | _ => none)
  | .lload n => (match pmGet l x with
    | some (.long v) => some (pc + 2, l, .long v :: st)
    | _ => none)
  | .lload_n n => (match pmGet l x with
    | some (.long v) => some (pc + 1, l, .long v :: st)
    | _ => none)
  | .aload n => (match pmGet l x with
    | some (.ref v) => some (pc + 2, l, .ref v :: st)
    | _ => none)
  | .aload_n n => (match pmGet l x with
    | some (.ref v) => some (pc + 1, l, .ref v :: st)
    | _ => none)
  | .istore n => (match st with
    | .int v :: r => some (pc + 2, pmSet (.int v) x l, r)
    | _ => none)
  | .istore_n n => (match st with
    | .int v :: r => some (pc + 1, pmSet (.int v) x l, r)
    | _ => none)
  | .astore n => (match st with
    | .ref v :: r => some (pc + 2, pmSet (.ref v) x l, r)
    | _ => none)
  | .astore_n n => (match st with
    | .ref v :: r => some (pc + 1, pmSet (.ref v) x l, r)
    | _ => none)
  | .lstore n => (match st with
    | .long v :: r => some (pc + 2, pmSet2 (.long v) x l, r)
    | _ => none)
  | .lstore_n n => (match st with
    | .long v :: r => some (pc + 1, pmSet2 (.long v) x l, r)
    | _ => none)
  | .iinc n d => (match pmGet l x with
    | some (.int v) => some (pc + 3, pmSet (.int (v + k)) x l, st)
    | _ => none)
  | .dup => (match st with
    | .int v :: r => some (pc + 1, l, .int v :: .int v :: r)
    | .ref v :: r => some (pc + 1, l, .ref v :: .ref v :: r)
    | _ => none)
  | .dup2 => (match st with
    | .int u :: .ref v :: r => some (pc + 1, l, .int u :: .ref v :: .int u :: .ref v :: r)
    | _ => none)
  | .pop => (match st with
    | .int _ :: r => some (pc + 1, l, r)
    | _ => none)
  | .iadd => (match st with
    | .int v :: .int u :: r => some (pc + 1, l, .int (u + v) :: r)
    | _ => none)
  | .isub => (match st with
    | .int v :: .int u :: r => some (pc + 1, l, .int (u - v) :: r)
    | _ => none)
  | .imul => (match st with
    | .int v :: .int u :: r => some (pc + 1, l, .int (u * v) :: r)
    | _ => none)
  | .iand => (match st with
    | .int v :: .int u :: r => some (pc + 1, l, .int (u &&& v) :: r)
    | _ => none)
  | .ior => (match st with
    | .int v :: .int u :: r => some (pc + 1, l, .int (u ||| v) :: r)
    | _ => none)
  | .ixor => (match st with
    | .int v :: .int u :: r => some (pc + 1, l, .int (u ^^^ v) :: r)
    | _ => none)
  | .ishl => (match st with
    | .int v :: .int u :: r => some (pc + 1, l, .int (u <<< (v &&& 31)) :: r)
    | _ => none)
  | .ishr => (match st with
    | .int v :: .int u :: r => some (pc + 1, l, .int (u >>> (v &&& 31)) :: r)
    | _ => none)
  | .iushr => (match st with
    | .int v :: .int u :: r => some (pc + 1, l, .int ((u.toUInt32 >>> (v.toUInt32 &&& Int32.toUInt32 31)).toInt32) :: r)
    | _ => none)
  | .idiv => (match st with
    | .int v :: .int u :: r => if v = 0 then none else some (pc + 1, l, .int (u / v) :: r)
    | _ => none)
  | .irem => (match st with
    | .int v :: .int u :: r => if v = 0 then none else some (pc + 1, l, .int (u - u / v * v) :: r)
    | _ => none)
  | .ineg => (match st with
    | .int u :: r => some (pc + 1, l, .int (-u) :: r)
    | _ => none)
  | .i2l => (match st with
    | .int u :: r => some (pc + 1, l, .long u.toInt64 :: r)
    | _ => none)
  | .l2i => (match st with
    | .long u :: r => some (pc + 1, l, .int u.toInt32 :: r)
    | _ => none)
  | .ladd => (match st with
    | .long v :: .long u :: r => some (pc + 1, l, .long (u + v) :: r)
    | _ => none)
  | .lsub => (match st with
    | .long v :: .long u :: r => some (pc + 1, l, .long (u - v) :: r)
    | _ => none)
  | .land => (match st with
    | .long v :: .long u :: r => some (pc + 1, l, .long (u &&& v) :: r)
    | _ => none)
  | .lor => (match st with
    | .long v :: .long u :: r => some (pc + 1, l, .long (u ||| v) :: r)
    | _ => none)
  | .lshl => (match st with
    | .int v :: .long u :: r => some (pc + 1, l, .long (u <<< (v.toInt64 &&& 63)) :: r)
    | _ => none)
  | .lcmp => (match st with
    | .long v :: .long u :: r => some (pc + 1, l, .int (lg_cmp u v) :: r)
    | _ => none)
  | .ifCond .eq off => (match st with
    | .int v :: r => if v = 0 then some (x, l, r) else some (pc + 3, l, r)
    | _ => none)
  | .ifCond .ne off => (match st with
    | .int v :: r => if v ≠ 0 then some (x, l, r) else some (pc + 3, l, r)
    | _ => none)
  | .ifCond .lt off => (match st with
    | .int v :: r => if v < 0 then some (x, l, r) else some (pc + 3, l, r)
    | _ => none)
  | .ifCond .ge off => (match st with
    | .int v :: r => if 0 ≤ v then some (x, l, r) else some (pc + 3, l, r)
    | _ => none)
  | .ifCond .gt off => (match st with
    | .int v :: r => if 0 < v then some (x, l, r) else some (pc + 3, l, r)
    | _ => none)
  | .ifCond .le off => (match st with
    | .int v :: r => if v ≤ 0 then some (x, l, r) else some (pc + 3, l, r)
    | _ => none)
  | .if_icmp .eq off => (match st with
    | .int v :: .int u :: r => if u = v then some (x, l, r) else some (pc + 3, l, r)
    | _ => none)
  | .if_icmp .ne off => (match st with
    | .int v :: .int u :: r => if u ≠ v then some (x, l, r) else some (pc + 3, l, r)
    | _ => none)
  | .if_icmp .lt off => (match st with
    | .int v :: .int u :: r => if u < v then some (x, l, r) else some (pc + 3, l, r)
    | _ => none)
  | .if_icmp .ge off => (match st with
    | .int v :: .int u :: r => if v ≤ u then some (x, l, r) else some (pc + 3, l, r)
    | _ => none)
  | .if_icmp .gt off => (match st with
    | .int v :: .int u :: r => if v < u then some (x, l, r) else some (pc + 3, l, r)
    | _ => none)
  | .if_icmp .le off => (match st with
    | .int v :: .int u :: r => if u ≤ v then some (x, l, r) else some (pc + 3, l, r)
    | _ => none)
  | .goto off => some (x, l, st)
  | .tableswitch d lo hi offs => (match st with
    | .int v :: r => if v.toInt < lo ∨ hi < v.toInt then some (((pc : Int) + d).toNat, l, r) else (match offs[(v.toInt - lo).toNat]? with
      | some off => some (((pc : Int) + off).toNat, l, r)
      | none => none)
    | _ => none)
  | _ => none
/-- the row of the pure code is what the bytes say -/
def pmOkA (own : String) (mb : Cond → Bool) (cc : ByteArray) (nL pc : Nat) (i : Instr) (x : Nat) (k : Int32) : Bool :=
  match i with
  | .iconst n => decide (decode cc pc = .ok (.iconst n, 1)) && decide (Int32.ofInt n = k)
  | .bipush n => decide (decode cc pc = .ok (.bipush n, 2)) && decide ((Int8.ofInt n).toInt32 = k)
  | .sipush n => decide (decode cc pc = .ok (.sipush n, 3)) && decide ((Int16.ofInt n).toInt32 = k)
  | .lconst n => decide (decode cc pc = .ok (.lconst n, 1)) && decide ((n : Nat) = x)
  | .ldc n => decide (decode cc pc = .ok (.ldc n, 2)) && mb (Jvm.Cond.constant own n k)
  | .ldc_w n => decide (decode cc pc = .ok (.ldc_w n, 3)) && mb (Jvm.Cond.constant own n k)
  | .ldc2_w n => decide (decode cc pc = .ok (.ldc2_w n, 3)) && mb (Jvm.Cond.constantLong own n (Int64.ofNat x))
  | .iload n => decide (decode cc pc = .ok (.iload n, 2)) && decide (n = x)
  | .iload_n n => decide (decode cc pc = .ok (.iload_n n, 1)) && decide ((n : Nat) = x)
  | .lload n => decide (decode cc pc = .ok (.lload n, 2)) && decide (n = x)
  | .lload_n n => decide (decode cc pc = .ok (.lload_n n, 1)) && decide ((n : Nat) = x)
  | .aload n => decide (decode cc pc = .ok (.aload n, 2)) && decide (n = x)
  | .aload_n n => decide (decode cc pc = .ok (.aload_n n, 1)) && decide ((n : Nat) = x)
  | .istore n => decide (decode cc pc = .ok (.istore n, 2)) && (decide (n = x) && decide (x < nL))
  | .istore_n n => decide (decode cc pc = .ok (.istore_n n, 1)) && (decide ((n : Nat) = x) && decide (x < nL))
  | .astore n => decide (decode cc pc = .ok (.astore n, 2)) && (decide (n = x) && decide (x < nL))
  | .astore_n n => decide (decode cc pc = .ok (.astore_n n, 1)) && (decide ((n : Nat) = x) && decide (x < nL))
  | .lstore n => decide (decode cc pc = .ok (.lstore n, 2)) && (decide (n = x) && decide (x + 1 < nL))
  | .lstore_n n => decide (decode cc pc = .ok (.lstore_n n, 1)) && (decide ((n : Nat) = x) && decide (x + 1 < nL))
  | .iinc n d => decide (decode cc pc = .ok (.iinc n d, 3)) && (decide (n = x) && (decide (x < nL) && decide (Int32.ofInt d = k)))
  | .dup => decide (decode cc pc = .ok (.dup, 1))
  | .dup2 => decide (decode cc pc = .ok (.dup2, 1))
  | .pop => decide (decode cc pc = .ok (.pop, 1))
  | .iadd => decide (decode cc pc = .ok (.iadd, 1))
  | .isub => decide (decode cc pc = .ok (.isub, 1))
  | .imul => decide (decode cc pc = .ok (.imul, 1))
  | .iand => decide (decode cc pc = .ok (.iand, 1))
  | .ior => decide (decode cc pc = .ok (.ior, 1))
  | .ixor => decide (decode cc pc = .ok (.ixor, 1))
  | .ishl => decide (decode cc pc = .ok (.ishl, 1))
  | .ishr => decide (decode cc pc = .ok (.ishr, 1))
  | .iushr => decide (decode cc pc = .ok (.iushr, 1))
  | .idiv => decide (decode cc pc = .ok (.idiv, 1))
  | .irem => decide (decode cc pc = .ok (.irem, 1))
  | .ineg => decide (decode cc pc = .ok (.ineg, 1))
  | .i2l => decide (decode cc pc = .ok (.i2l, 1))
  | .l2i => decide (decode cc pc = .ok (.l2i, 1))
  | .ladd => decide (decode cc pc = .ok (.ladd, 1))
  | .lsub => decide (decode cc pc = .ok (.lsub, 1))
  | .land => decide (decode cc pc = .ok (.land, 1))
  | .lor => decide (decode cc pc = .ok (.lor, 1))
  | .lshl => decide (decode cc pc = .ok (.lshl, 1))
  | .lcmp => decide (decode cc pc = .ok (.lcmp, 1))
  | .ifCond .eq off => decide (decode cc pc = .ok (.ifCond .eq off, 3)) && decide ((pc : Int) + off = (x : Int))
  | .ifCond .ne off => decide (decode cc pc = .ok (.ifCond .ne off, 3)) && decide ((pc : Int) + off = (x : Int))
  | .ifCond .lt off => decide (decode cc pc = .ok (.ifCond .lt off, 3)) && decide ((pc : Int) + off = (x : Int))
  | .ifCond .ge off => decide (decode cc pc = .ok (.ifCond .ge off, 3)) && decide ((pc : Int) + off = (x : Int))
  | .ifCond .gt off => decide (decode cc pc = .ok (.ifCond .gt off, 3)) && decide ((pc : Int) + off = (x : Int))
  | .ifCond .le off => decide (decode cc pc = .ok (.ifCond .le off, 3)) && decide ((pc : Int) + off = (x : Int))
  | .if_icmp .eq off => decide (decode cc pc = .ok (.if_icmp .eq off, 3)) && decide ((pc : Int) + off = (x : Int))
  | .if_icmp .ne off => decide (decode cc pc = .ok (.if_icmp .ne off, 3)) && decide ((pc : Int) + off = (x : Int))
  | .if_icmp .lt off => decide (decode cc pc = .ok (.if_icmp .lt off, 3)) && decide ((pc : Int) + off = (x : Int))
  | .if_icmp .ge off => decide (decode cc pc = .ok (.if_icmp .ge off, 3)) && decide ((pc : Int) + off = (x : Int))
  | .if_icmp .gt off => decide (decode cc pc = .ok (.if_icmp .gt off, 3)) && decide ((pc : Int) + off = (x : Int))
  | .if_icmp .le off => decide (decode cc pc = .ok (.if_icmp .le off, 3)) && decide ((pc : Int) + off = (x : Int))
  | .goto off => decide (decode cc pc = .ok (.goto off, 3)) && decide ((pc : Int) + off = (x : Int))
  | .tableswitch d lo hi offs => decide (decode cc pc = .ok (.tableswitch d lo hi offs, x)) && (decide (0 ≤ (pc : Int) + d) && offs.all (fun off => decide (0 ≤ (pc : Int) + off)))
  | _ => false
section PMA
variable {p : Program} {l : Launch} {e : Env} {R : Room} {s : State} {m : MethodId} {args : Array Value} {below : List Frame} {meth : Method} {c : Code} {H : Heap} {locs : List Loc} {cells slots : Nat} {Q : State → Prop}
variable {cc : ByteArray} {nL pc pc1 x : Nat} {k : Int32} {lo lo1 : pmL} {st st1 : List Value} {φ : Nat → Nat} {own : String} {mb : Cond → Bool} {ls : Array Slot}
set_option maxHeartbeats 4000000 in
theorem pm_soundA (hx : p.tables.exec = Jvm.exec) (hb : c.code = cc) (hown : s.vm.findClass own = some m.cls) (hts : ∀ w, mb w = true → w.before args s = true) {i : Instr}
    (ok : pmOkA own mb cc nL pc i x k = true) (h : pmA i x k pc lo st = some (pc1, lo1, st1)) (hl : lv_has ls nL (pmLv φ lo))
    (kk : ∀ ls1, lv_has ls1 nL (pmLv φ lo1) → W p l e R s m args below meth c H locs cells slots Q (F0 m pc1 ls1 (st1.map (pmV φ)))) :
    W p l e R s m args below meth c H locs cells slots Q (F0 m pc ls (st.map (pmV φ))) := by
  unfold pmA at h
  split at h
  · -- .iconst n
    simp only [pmOkA, Bool.and_eq_true, decide_eq_true_eq] at ok
    cases h
    exact lv_iconst hx hb ok.1 ok.2 (kk ls hl)
  · -- .bipush n
    simp only [pmOkA, Bool.and_eq_true, decide_eq_true_eq] at ok
    cases h
    exact lv_bipush hx hb ok.1 ok.2 (kk ls hl)
  · -- .sipush n
    simp only [pmOkA, Bool.and_eq_true, decide_eq_true_eq] at ok
    cases h
    exact lv_sipush hx hb ok.1 ok.2 (kk ls hl)
  · -- .lconst n
    simp only [pmOkA, Bool.and_eq_true, decide_eq_true_eq] at ok
    cases h
    exact lv_lconst hx hb ok.1 (by rw [ok.2]) (kk ls hl)
  · -- .ldc n
    simp only [pmOkA, Bool.and_eq_true, decide_eq_true_eq] at ok
    cases h
    exact lv_ldc hx hb hown (hts _ ok.2) ok.1 (kk ls hl)
  · -- .ldc_w n
    simp only [pmOkA, Bool.and_eq_true, decide_eq_true_eq] at ok
    cases h
    exact lv_ldcw hx hb hown (hts _ ok.2) ok.1 (kk ls hl)
  · -- .ldc2_w n
    simp only [pmOkA, Bool.and_eq_true, decide_eq_true_eq] at ok
    cases h
    exact lv_ldc2 hx hb hown (hts _ ok.2) ok.1 (kk ls hl)
  · -- .iload n
    simp only [pmOkA, Bool.and_eq_true, decide_eq_true_eq] at ok
    split at h
    · rename_i v hg; cases h
      exact lv_iload hx hb ok.1 (by rw [ok.2]; exact pmLv_at hl hg) (kk ls hl)
    · cases h
  · -- .iload_n n
    simp only [pmOkA, Bool.and_eq_true, decide_eq_true_eq] at ok
    split at h
    · rename_i v hg; cases h
      exact lv_iload_n hx hb ok.1 ok.2 (pmLv_at hl hg) (kk ls hl)
    · cases h
  · -- .lload n
    simp only [pmOkA, Bool.and_eq_true, decide_eq_true_eq] at ok
    split at h
    · rename_i v hg; cases h
      exact lv_lload hx hb ok.1 (by rw [ok.2]; exact pmLv_at hl hg) (kk ls hl)
    · cases h
  · -- .lload_n n
    simp only [pmOkA, Bool.and_eq_true, decide_eq_true_eq] at ok
    split at h
    · rename_i v hg; cases h
      exact lv_lload_n hx hb ok.1 ok.2 (pmLv_at hl hg) (kk ls hl)
    · cases h
  · -- .aload n
    simp only [pmOkA, Bool.and_eq_true, decide_eq_true_eq] at ok
    split at h
    · rename_i v hg; cases h
      exact lv_aload hx hb ok.1 (by rw [ok.2]; exact pmLv_at hl hg) (kk ls hl)
    · cases h
  · -- .aload_n n
    simp only [pmOkA, Bool.and_eq_true, decide_eq_true_eq] at ok
    split at h
    · rename_i v hg; cases h
      exact lv_aload_n hx hb ok.1 ok.2 (pmLv_at hl hg) (kk ls hl)
    · cases h
  · -- .istore n
    simp only [pmOkA, Bool.and_eq_true, decide_eq_true_eq] at ok
    split at h
    · cases h
      obtain ⟨o1, o2, o3⟩ := ok
      subst o2
      exact lv_istore hx hb o1 hl o3 rfl (fun ls1 h1 => kk ls1 (pmLv_set h1))
    · cases h
  · -- .istore_n n
    simp only [pmOkA, Bool.and_eq_true, decide_eq_true_eq] at ok
    split at h
    · cases h
      exact lv_istore_n hx hb ok.1 ok.2.1 hl ok.2.2 rfl (fun ls1 h1 => kk ls1 (pmLv_set h1))
    · cases h
  · -- .astore n
    simp only [pmOkA, Bool.and_eq_true, decide_eq_true_eq] at ok
    split at h
    · cases h
      obtain ⟨o1, o2, o3⟩ := ok
      subst o2
      exact lv_astore hx hb o1 hl o3 rfl (fun ls1 h1 => kk ls1 (pmLv_set h1))
    · cases h
  · -- .astore_n n
    simp only [pmOkA, Bool.and_eq_true, decide_eq_true_eq] at ok
    split at h
    · cases h
      exact lv_astore_n hx hb ok.1 ok.2.1 hl ok.2.2 rfl (fun ls1 h1 => kk ls1 (pmLv_set h1))
    · cases h
  · -- .lstore n
    simp only [pmOkA, Bool.and_eq_true, decide_eq_true_eq] at ok
    split at h
    · cases h
      obtain ⟨o1, o2, o3⟩ := ok
      subst o2
      exact lv_lstore hx hb o1 hl o3 rfl (fun ls1 h1 => kk ls1 (pmLv_set2 h1))
    · cases h
  · -- .lstore_n n
    simp only [pmOkA, Bool.and_eq_true, decide_eq_true_eq] at ok
    split at h
    · cases h
      exact lv_lstore_n hx hb ok.1 ok.2.1 hl ok.2.2 rfl (fun ls1 h1 => kk ls1 (pmLv_set2 h1))
    · cases h
  · -- .iinc n d
    simp only [pmOkA, Bool.and_eq_true, decide_eq_true_eq] at ok
    split at h
    · rename_i v hg; cases h
      obtain ⟨o1, o2, o3, o4⟩ := ok
      subst o2
      obtain ⟨j, hj⟩ := List.getElem?_of_mem (pmLv_mem.mpr ⟨_, hg, rfl⟩ : (_, pmV φ (.int v)) ∈ pmLv φ lo)
      exact lv_iinc hx hb o1 hl hj (by rw [o4]) o3 rfl (fun ls1 h1 => kk ls1 (pmLv_set h1))
    · cases h
  · -- .dup
    simp only [pmOkA, Bool.and_eq_true, decide_eq_true_eq] at ok
    split at h
    · cases h
      exact lv_dup hx hb ok rfl (kk ls hl)
    · cases h
      exact lv_dup hx hb ok rfl (kk ls hl)
    · cases h
  · -- .dup2
    simp only [pmOkA, Bool.and_eq_true, decide_eq_true_eq] at ok
    split at h
    · cases h
      exact lv_dup2_11 hx hb ok rfl rfl (kk ls hl)
    · cases h
  · -- .pop
    simp only [pmOkA, Bool.and_eq_true, decide_eq_true_eq] at ok
    split at h
    · cases h
      exact lv_pop hx hb ok rfl (kk ls hl)
    · cases h
  · -- .iadd
    simp only [pmOkA, Bool.and_eq_true, decide_eq_true_eq] at ok
    split at h
    · cases h
      exact lv_iadd hx hb ok (kk ls hl)
    · cases h
  · -- .isub
    simp only [pmOkA, Bool.and_eq_true, decide_eq_true_eq] at ok
    split at h
    · cases h
      exact lv_isub hx hb ok (kk ls hl)
    · cases h
  · -- .imul
    simp only [pmOkA, Bool.and_eq_true, decide_eq_true_eq] at ok
    split at h
    · cases h
      exact lv_imul hx hb ok (kk ls hl)
    · cases h
  · -- .iand
    simp only [pmOkA, Bool.and_eq_true, decide_eq_true_eq] at ok
    split at h
    · cases h
      exact lv_iand hx hb ok (kk ls hl)
    · cases h
  · -- .ior
    simp only [pmOkA, Bool.and_eq_true, decide_eq_true_eq] at ok
    split at h
    · cases h
      exact lv_ior hx hb ok (kk ls hl)
    · cases h
  · -- .ixor
    simp only [pmOkA, Bool.and_eq_true, decide_eq_true_eq] at ok
    split at h
    · cases h
      exact lv_ixor hx hb ok (kk ls hl)
    · cases h
  · -- .ishl
    simp only [pmOkA, Bool.and_eq_true, decide_eq_true_eq] at ok
    split at h
    · cases h
      exact lv_ishl hx hb ok (kk ls hl)
    · cases h
  · -- .ishr
    simp only [pmOkA, Bool.and_eq_true, decide_eq_true_eq] at ok
    split at h
    · cases h
      exact lv_ishr hx hb ok (kk ls hl)
    · cases h
  · -- .iushr
    simp only [pmOkA, Bool.and_eq_true, decide_eq_true_eq] at ok
    split at h
    · cases h
      exact lv_iushr hx hb ok rfl (kk ls hl)
    · cases h
  · -- .idiv
    simp only [pmOkA, Bool.and_eq_true, decide_eq_true_eq] at ok
    split at h
    · split at h
      · cases h
      · rename_i hz; cases h
        exact lv_idiv hx hb ok hz (kk ls hl)
    · cases h
  · -- .irem
    simp only [pmOkA, Bool.and_eq_true, decide_eq_true_eq] at ok
    split at h
    · split at h
      · cases h
      · rename_i hz; cases h
        exact lv_irem hx hb ok hz (kk ls hl)
    · cases h
  · -- .ineg
    simp only [pmOkA, Bool.and_eq_true, decide_eq_true_eq] at ok
    split at h
    · cases h
      exact lv_ineg hx hb ok (kk ls hl)
    · cases h
  · -- .i2l
    simp only [pmOkA, Bool.and_eq_true, decide_eq_true_eq] at ok
    split at h
    · cases h
      exact lv_i2l hx hb ok rfl (kk ls hl)
    · cases h
  · -- .l2i
    simp only [pmOkA, Bool.and_eq_true, decide_eq_true_eq] at ok
    split at h
    · cases h
      exact lv_l2i hx hb ok rfl (kk ls hl)
    · cases h
  · -- .ladd
    simp only [pmOkA, Bool.and_eq_true, decide_eq_true_eq] at ok
    split at h
    · cases h
      exact lv_ladd hx hb ok (kk ls hl)
    · cases h
  · -- .lsub
    simp only [pmOkA, Bool.and_eq_true, decide_eq_true_eq] at ok
    split at h
    · cases h
      exact lv_lsub hx hb ok (kk ls hl)
    · cases h
  · -- .land
    simp only [pmOkA, Bool.and_eq_true, decide_eq_true_eq] at ok
    split at h
    · cases h
      exact lv_land hx hb ok (kk ls hl)
    · cases h
  · -- .lor
    simp only [pmOkA, Bool.and_eq_true, decide_eq_true_eq] at ok
    split at h
    · cases h
      exact lv_lor hx hb ok (kk ls hl)
    · cases h
  · -- .lshl
    simp only [pmOkA, Bool.and_eq_true, decide_eq_true_eq] at ok
    split at h
    · cases h
      exact lv_lshl hx hb ok rfl (kk ls hl)
    · cases h
  · -- .lcmp
    simp only [pmOkA, Bool.and_eq_true, decide_eq_true_eq] at ok
    split at h
    · cases h
      exact W.lcmp hx hb ok (kk ls hl)
    · cases h
  · -- .ifCond .eq off
    simp only [pmOkA, Bool.and_eq_true, decide_eq_true_eq] at ok
    split at h
    · split at h
      · rename_i hc; cases h
        exact lv_if_eq hx hb ok.1 ok.2 (fun _ => kk ls hl) (fun hn => absurd hc hn)
      · rename_i hc; cases h
        exact lv_if_eq hx hb ok.1 ok.2 (fun hn => absurd hn hc) (fun _ => kk ls hl)
    · cases h
  · -- .ifCond .ne off
    simp only [pmOkA, Bool.and_eq_true, decide_eq_true_eq] at ok
    split at h
    · split at h
      · rename_i hc; cases h
        exact lv_if_ne hx hb ok.1 ok.2 (fun _ => kk ls hl) (fun hn => absurd hn hc)
      · rename_i hc; cases h
        exact lv_if_ne hx hb ok.1 ok.2 (fun hn => absurd hn hc) (fun _ => kk ls hl)
    · cases h
  · -- .ifCond .lt off
    simp only [pmOkA, Bool.and_eq_true, decide_eq_true_eq] at ok
    split at h
    · split at h
      · rename_i hc; cases h
        exact lv_if_lt hx hb ok.1 ok.2 (fun _ => kk ls hl) (fun hn => absurd hc hn)
      · rename_i hc; cases h
        exact lv_if_lt hx hb ok.1 ok.2 (fun hn => absurd hn hc) (fun _ => kk ls hl)
    · cases h
  · -- .ifCond .ge off
    simp only [pmOkA, Bool.and_eq_true, decide_eq_true_eq] at ok
    split at h
    · split at h
      · rename_i hc; cases h
        exact lv_if_ge hx hb ok.1 ok.2 (fun _ => kk ls hl) (fun hn => absurd hc hn)
      · rename_i hc; cases h
        exact lv_if_ge hx hb ok.1 ok.2 (fun hn => absurd hn hc) (fun _ => kk ls hl)
    · cases h
  · -- .ifCond .gt off
    simp only [pmOkA, Bool.and_eq_true, decide_eq_true_eq] at ok
    split at h
    · split at h
      · rename_i hc; cases h
        exact lv_if_gt hx hb ok.1 ok.2 (fun _ => kk ls hl) (fun hn => absurd hc hn)
      · rename_i hc; cases h
        exact lv_if_gt hx hb ok.1 ok.2 (fun hn => absurd hn hc) (fun _ => kk ls hl)
    · cases h
  · -- .ifCond .le off
    simp only [pmOkA, Bool.and_eq_true, decide_eq_true_eq] at ok
    split at h
    · split at h
      · rename_i hc; cases h
        exact lv_if_le hx hb ok.1 ok.2 (fun _ => kk ls hl) (fun hn => absurd hc hn)
      · rename_i hc; cases h
        exact lv_if_le hx hb ok.1 ok.2 (fun hn => absurd hn hc) (fun _ => kk ls hl)
    · cases h
  · -- .if_icmp .eq off
    simp only [pmOkA, Bool.and_eq_true, decide_eq_true_eq] at ok
    split at h
    · split at h
      · rename_i hc; cases h
        exact lv_icmp_eq hx hb ok.1 ok.2 (fun _ => kk ls hl) (fun hn => absurd hc hn)
      · rename_i hc; cases h
        exact lv_icmp_eq hx hb ok.1 ok.2 (fun hn => absurd hn hc) (fun _ => kk ls hl)
    · cases h
  · -- .if_icmp .ne off
    simp only [pmOkA, Bool.and_eq_true, decide_eq_true_eq] at ok
    split at h
    · split at h
      · rename_i hc; cases h
        exact lv_icmp_ne hx hb ok.1 ok.2 (fun _ => kk ls hl) (fun hn => absurd hn hc)
      · rename_i hc; cases h
        exact lv_icmp_ne hx hb ok.1 ok.2 (fun hn => absurd hn hc) (fun _ => kk ls hl)
    · cases h
  · -- .if_icmp .lt off
    simp only [pmOkA, Bool.and_eq_true, decide_eq_true_eq] at ok
    split at h
    · split at h
      · rename_i hc; cases h
        exact lv_icmp_lt hx hb ok.1 ok.2 (fun _ => kk ls hl) (fun hn => absurd hc hn)
      · rename_i hc; cases h
        exact lv_icmp_lt hx hb ok.1 ok.2 (fun hn => absurd hn hc) (fun _ => kk ls hl)
    · cases h
  · -- .if_icmp .ge off
    simp only [pmOkA, Bool.and_eq_true, decide_eq_true_eq] at ok
    split at h
    · split at h
      · rename_i hc; cases h
        exact lv_icmp_ge hx hb ok.1 ok.2 (fun _ => kk ls hl) (fun hn => absurd hc hn)
      · rename_i hc; cases h
        exact lv_icmp_ge hx hb ok.1 ok.2 (fun hn => absurd hn hc) (fun _ => kk ls hl)
    · cases h
  · -- .if_icmp .gt off
    simp only [pmOkA, Bool.and_eq_true, decide_eq_true_eq] at ok
    split at h
    · split at h
      · rename_i hc; cases h
        exact lv_icmp_gt hx hb ok.1 ok.2 (fun _ => kk ls hl) (fun hn => absurd hc hn)
      · rename_i hc; cases h
        exact lv_icmp_gt hx hb ok.1 ok.2 (fun hn => absurd hn hc) (fun _ => kk ls hl)
    · cases h
  · -- .if_icmp .le off
    simp only [pmOkA, Bool.and_eq_true, decide_eq_true_eq] at ok
    split at h
    · split at h
      · rename_i hc; cases h
        exact lv_icmp_le hx hb ok.1 ok.2 (fun _ => kk ls hl) (fun hn => absurd hc hn)
      · rename_i hc; cases h
        exact lv_icmp_le hx hb ok.1 ok.2 (fun hn => absurd hn hc) (fun _ => kk ls hl)
    · cases h
  · -- .goto off
    simp only [pmOkA, Bool.and_eq_true, decide_eq_true_eq] at ok
    cases h
    exact lv_goto hx hb ok.1 ok.2 (kk ls hl)
  · -- .tableswitch d lo hi offs
    simp only [pmOkA, Bool.and_eq_true, decide_eq_true_eq] at ok
    split at h
    · split at h
      · rename_i hc; cases h
        exact lv_tableOut hx hb ok.1 hc (by omega) (kk ls hl)
      · rename_i hc
        split at h
        · rename_i off ho; cases h
          have hq := Array.all_eq_true_iff_forall_mem.mp ok.2.2 off (Array.mem_of_getElem? ho)
          simp only [decide_eq_true_eq] at hq
          exact lv_tableIn hx hb ok.1 (fun z => hc (Or.inl z)) (fun z => hc (Or.inr z)) ho (by omega) (kk ls hl)
        · cases h
    · cases h
  · cases h
end PMA
end
section
/-! ===== THE PURE MACHINE (2): its world ===== -/
abbrev pmH : Type := Nat → (FieldType × Nat) ⊕ Nat
/-- how many cells; cells and slots made so far; what each cell is; references; ints; longs, by cell and place -/
abbrev pmW : Type := Nat × Nat × Nat × pmH × (Nat → Nat → Option Nat) × (Nat → Nat → Int32) × (Nat → Nat → Int64)
abbrev pmn (w : pmW) : Nat := w.1
abbrev pmnc (w : pmW) : Nat := w.2.1
abbrev pmns (w : pmW) : Nat := w.2.2.1
abbrev pmh (w : pmW) : pmH := w.2.2.2.1
abbrev pmr (w : pmW) : Nat → Nat → Option Nat := w.2.2.2.2.1
abbrev pmi (w : pmW) : Nat → Nat → Int32 := w.2.2.2.2.2.1
abbrev pmj (w : pmW) : Nat → Nat → Int64 := w.2.2.2.2.2.2
def pmRf : Option Nat → Value
  | some b => .ref b
  | none => .null
def pmRd (w : pmW) (a k : Nat) (t : FieldType) : Value := match t with
  | .object _ => pmRf (pmr w a k)
  | .array _ => pmRf (pmr w a k)
  | .long => .long (pmj w a k)
  | _ => .int (pmi w a k)
def pmUI (f : Nat → Nat → Int32) (a k : Nat) (v : Int32) : Nat → Nat → Int32 := fun b => if b = a then upd (f a) k v else f b
def pmUJ (f : Nat → Nat → Int64) (a k : Nat) (v : Int64) : Nat → Nat → Int64 := fun b => if b = a then vp_updL (f a) k v else f b
def pmUR (f : Nat → Nat → Option Nat) (a k : Nat) (v : Option Nat) : Nat → Nat → Option Nat := fun b => if b = a then va_up (f a) k v else f b
def pmWr (w : pmW) (a k : Nat) (t : FieldType) (v : Value) : Option pmW := match t with
  | .int => (match v with
    | .int z => some (w.1, w.2.1, w.2.2.1, w.2.2.2.1, w.2.2.2.2.1, pmUI w.2.2.2.2.2.1 a k z, w.2.2.2.2.2.2)
    | _ => none)
  | .boolean => (match v with
    | .int z => if z = 0 ∨ z = 1 then some (w.1, w.2.1, w.2.2.1, w.2.2.2.1, w.2.2.2.2.1, pmUI w.2.2.2.2.2.1 a k z, w.2.2.2.2.2.2) else none
    | _ => none)
  | .object _ => (match v with
    | .ref b => some (w.1, w.2.1, w.2.2.1, w.2.2.2.1, pmUR w.2.2.2.2.1 a k (some b), w.2.2.2.2.2.1, w.2.2.2.2.2.2)
    | _ => none)
  | .array _ => (match v with
    | .ref b => some (w.1, w.2.1, w.2.2.1, w.2.2.2.1, pmUR w.2.2.2.2.1 a k (some b), w.2.2.2.2.2.1, w.2.2.2.2.2.2)
    | _ => none)
  | _ => none
/-- a new cell -/
def pmNew (w : pmW) (h : (FieldType × Nat) ⊕ Nat) (n : Nat) : pmW :=
  (w.1 + 1, w.2.1 + 1, w.2.2.1 + n, va_up w.2.2.2.1 (w.1 + 1) h, va_up w.2.2.2.2.1 (w.1 + 1) (fun _ => none), va_up w.2.2.2.2.2.1 (w.1 + 1) (fun _ => 0), va_up w.2.2.2.2.2.2 (w.1 + 1) (fun _ => 0))
/-- a step that looks at the world -/
def pmB (ty : Nat → Nat → FieldType) (nf : Nat → Nat) (i : Instr) (x y pc : Nat) (l : pmL) (st : List Value) (w : pmW) : Option (Nat × pmL × List Value × pmW) :=
  match i with
  | .getfield _ => (match st with
    | .ref a :: r => (match pmh w a with
      | .inr c => if c = x ∧ 1 ≤ a ∧ a ≤ pmn w then some (pc + 3, l, pmRd w a y (ty x y) :: r, w) else none
      | .inl _ => none)
    | _ => none)
  | .putfield _ => (match st with
    | v :: .ref a :: r => (match pmh w a with
      | .inr c => if c = x ∧ 1 ≤ a ∧ a ≤ pmn w then (match pmWr w a y (ty x y) v with
        | some w1 => some (pc + 3, l, r, w1)
        | none => none) else none
      | .inl _ => none)
    | _ => none)
  | .iaload => (match st with
    | .int j :: .ref a :: r => (match pmh w a with
      | .inl (.int, n) => if a ≤ pmn w then (if j < 0 ∨ n ≤ j.toNatClampNeg then none else some (pc + 1, l, .int (pmi w a j.toNatClampNeg) :: r, w)) else none
      | _ => none)
    | _ => none)
  | .baload => (match st with
    | .int j :: .ref a :: r => (match pmh w a with
      | .inl (.boolean, n) => if 1 ≤ a ∧ a ≤ pmn w then (if j < 0 ∨ n ≤ j.toNatClampNeg then none else some (pc + 1, l, .int (pmi w a j.toNatClampNeg) :: r, w)) else none
      | _ => none)
    | _ => none)
  | .laload => (match st with
    | .int j :: .ref a :: r => (match pmh w a with
      | .inl (.long, n) => if 1 ≤ a ∧ a ≤ pmn w then (if j < 0 ∨ n ≤ j.toNatClampNeg then none else some (pc + 1, l, .long (pmj w a j.toNatClampNeg) :: r, w)) else none
      | _ => none)
    | _ => none)
  | .iastore => (match st with
    | .int v :: .int j :: .ref a :: r => (match pmh w a with
      | .inl (.int, n) => if 1 ≤ a ∧ a ≤ pmn w then (if j < 0 ∨ n ≤ j.toNatClampNeg then none else some (pc + 1, l, r, w.1, w.2.1, w.2.2.1, w.2.2.2.1, w.2.2.2.2.1, pmUI w.2.2.2.2.2.1 a j.toNatClampNeg v, w.2.2.2.2.2.2)) else none
      | _ => none)
    | _ => none)
  | .bastore => (match st with
    | .int v :: .int j :: .ref a :: r => (match pmh w a with
      | .inl (.boolean, n) => if 1 ≤ a ∧ a ≤ pmn w then (if j < 0 ∨ n ≤ j.toNatClampNeg then none else some (pc + 1, l, r, w.1, w.2.1, w.2.2.1, w.2.2.2.1, w.2.2.2.2.1, pmUI w.2.2.2.2.2.1 a j.toNatClampNeg (vp_nar .boolean v), w.2.2.2.2.2.2)) else none
      | _ => none)
    | _ => none)
  | .lastore => (match st with
    | .long v :: .int j :: .ref a :: r => (match pmh w a with
      | .inl (.long, n) => if 1 ≤ a ∧ a ≤ pmn w then (if j < 0 ∨ n ≤ j.toNatClampNeg then none else some (pc + 1, l, r, w.1, w.2.1, w.2.2.1, w.2.2.2.1, w.2.2.2.2.1, w.2.2.2.2.2.1, pmUJ w.2.2.2.2.2.2 a j.toNatClampNeg v)) else none
      | _ => none)
    | _ => none)
  | .arraylength => (match st with
    | .ref a :: r => (match pmh w a with
      | .inl (_, n) => if a ≤ pmn w then some (pc + 1, l, .int (Int32.ofNat n) :: r, w) else none
      | .inr _ => none)
    | _ => none)
  | .newarray .int => (match st with
    | .int n :: r => if n < 0 ∨ 65536 < n.toNatClampNeg then none else some (pc + 2, l, .ref (w.1 + 1) :: r, pmNew w (.inl (.int, n.toNatClampNeg)) n.toNatClampNeg)
    | _ => none)
  | .newarray .boolean => (match st with
    | .int n :: r => if n < 0 ∨ 65536 < n.toNatClampNeg then none else some (pc + 2, l, .ref (w.1 + 1) :: r, pmNew w (.inl (.boolean, n.toNatClampNeg)) n.toNatClampNeg)
    | _ => none)
  | .newarray .long => (match st with
    | .int n :: r => if n < 0 ∨ 65536 < n.toNatClampNeg then none else some (pc + 2, l, .ref (w.1 + 1) :: r, pmNew w (.inl (.long, n.toNatClampNeg)) n.toNatClampNeg)
    | _ => none)
  | .new _ => some (pc + 3, l, .ref (w.1 + 1) :: st, pmNew w (.inr x) (nf x))
  | _ => none
/-- the rows that speak of fields, arrays and classes are what the tables say; ini: in a constructor -/
def pmOkB (cl : List vw_C) (own : String) (ini : Bool) (mb : Cond → Bool) (cc : ByteArray) (pc : Nat) (i : Instr) (x y : Nat) : Bool :=
  match i with
  | .getfield n => decide (decode cc pc = .ok (.getfield n, 3)) && (match cl[x]? with
    | some (_, T, N) => decide (y < N) && mb (Cond.fieldLink own n (T y).1 (T y).2.1 (T y).2.2.1)
    | none => false)
  | .putfield n => decide (decode cc pc = .ok (.putfield n, 3)) && (match cl[x]? with
    | some (_, T, N) => decide (y < N) && (mb (Cond.fieldLink own n (T y).1 (T y).2.1 (T y).2.2.1) && (decide ((T y).2.2.2 = false) || (ini && (decide ((T y).2.2.2 = true) && decide ((T y).1 = own)))))
    | none => false)
  | .newarray t => decide (decode cc pc = .ok (.newarray t, 2)) && mb (Cond.arrayClass (newarray.typeOf t))
  | .new n => decide (decode cc pc = .ok (.new n, 3)) && (match cl[x]? with
    | some (C, _, N) => mb (Cond.classLink own n C) && (mb (Cond.instantiable C N) && mb (Cond.initialized C))
    | none => false)
  | i => decide (decode cc pc = .ok (i, 1))
/-! the same world in the machine's heap: cell a lies at φ a; the script, cell 0, is not among them -/
def pmN (cl : List vw_C) (ci : Nat) : Nat := match cl[ci]? with
  | some q => q.2.2
  | none => 0
def pmCl (cl : List vw_C) (ty : Nat → Nat → FieldType) (cI cZ cJ : ClassId) (φ : Nat → Nat) (w : pmW) (a : Nat) : va_E := match pmh w a with
  | .inl (.long, n) => .inl (cJ, n, .inr (.inl (pmj w a)))
  | .inl (.boolean, n) => .inl (cZ, n, .inl (pmi w a))
  | .inl (_, n) => .inl (cI, n, .inl (pmi w a))
  | .inr ci => .inr (ci, (List.range (pmN cl ci)).map (fun k => pmV φ (pmRd w a k (ty ci k))))
def pmWd (cl : List vw_C) (ty : Nat → Nat → FieldType) (cI cZ cJ : ClassId) (φ : Nat → Nat) (w : pmW) : va_W := (List.range (pmn w)).map (fun j => (φ (j + 1), pmCl cl ty cI cZ cJ φ w (j + 1)))
section PMB
variable {cl : List vw_C} {ty : Nat → Nat → FieldType} {cI cZ cJ : ClassId} {φ φ1 : Nat → Nat} {w w1 : pmW}
theorem pmWd_at {a : Nat} (h1 : 1 ≤ a) (h2 : a ≤ pmn w) : (pmWd cl ty cI cZ cJ φ w)[a - 1]? = some (φ a, pmCl cl ty cI cZ cJ φ w a) := by
  have h3 : a - 1 < pmn w := by omega
  have h4 : a - 1 + 1 = a := by omega
  simp [pmWd, h3, h4]
theorem pmWd_set {a : Nat} (h1 : 1 ≤ a) (h2 : a ≤ pmn w) (hn : pmn w1 = pmn w) (h : ∀ b, b ≠ a → pmCl cl ty cI cZ cJ φ w1 b = pmCl cl ty cI cZ cJ φ w b) :
    pmWd cl ty cI cZ cJ φ w1 = (pmWd cl ty cI cZ cJ φ w).set (a - 1) (φ a, pmCl cl ty cI cZ cJ φ w1 a) := by
  refine List.ext_getElem? fun j => ?_
  rw [List.getElem?_set]
  by_cases hj : j < pmn w
  · by_cases e : a - 1 = j
    · rw [if_pos e, if_pos (by simp [pmWd]; omega)]
      subst e
      exact pmWd_at h1 (by omega)
    · rw [if_neg e]
      simp only [pmWd, hn, List.getElem?_map, List.getElem?_range hj, Option.map_some]
      rw [h (j + 1) (by omega)]
  · have e1 : (pmWd cl ty cI cZ cJ φ w1)[j]? = none := by simp [pmWd, hn]; omega
    have e2 : (pmWd cl ty cI cZ cJ φ w)[j]? = none := by simp [pmWd]; omega
    rw [e1, e2]
    split
    · rw [if_neg (by simp [pmWd]; omega)]
    · rfl
theorem pmV_agree {n : Nat} (hφ : ∀ a, a ≤ n → φ1 a = φ a) {v : Value} (hv : ∀ a, v = .ref a → a ≤ n) : pmV φ1 v = pmV φ v := by
  cases v with
  | ref a => simp only [pmV]; rw [hφ a (hv a rfl)]
  | _ => rfl
theorem pmLv_agree {n : Nat} (hφ : ∀ a, a ≤ n → φ1 a = φ a) {l : pmL} (hl : ∀ i a, pmGet l i = some (.ref a) → a ≤ n) : pmLv φ1 l = pmLv φ l := by
  unfold pmLv
  have e : (fun i => (pmGet l i).map (fun v => (i, pmV φ1 v))) = (fun i => (pmGet l i).map (fun v => (i, pmV φ v))) := by
    funext i
    cases hg : pmGet l i with
    | none => rfl
    | some v => simp only [Option.map_some]; rw [pmV_agree hφ (fun a e => hl i a (by rw [hg, e]))]
  rw [e]
theorem pmSt_agree {n : Nat} (hφ : ∀ a, a ≤ n → φ1 a = φ a) {st : List Value} (hl : ∀ a, Value.ref a ∈ st → a ≤ n) : st.map (pmV φ1) = st.map (pmV φ) :=
  List.map_congr_left fun v hv => pmV_agree hφ (fun a e => hl a (e ▸ hv))
theorem pmRd_ref {a k b n : Nat} {t : FieldType} (hw : ∀ a k b, pmr w a k = some b → b ≤ n) (h : pmRd w a k t = .ref b) : b ≤ n := by
  unfold pmRd at h
  split at h
  · cases hq : pmr w a k with
    | none => rw [hq] at h; cases h
    | some z => rw [hq] at h; cases h; exact hw _ _ _ hq
  · cases hq : pmr w a k with
    | none => rw [hq] at h; cases h
    | some z => rw [hq] at h; cases h; exact hw _ _ _ hq
  · cases h
  · cases h
/-- cells that don't change, seen with more cells -/
theorem pmCl_agree {n a : Nat} (hφ : ∀ a, a ≤ n → φ1 a = φ a) (hw : ∀ a k b, pmr w a k = some b → b ≤ n) (e1 : pmh w1 a = pmh w a) (e2 : pmr w1 a = pmr w a) (e3 : pmi w1 a = pmi w a) (e4 : pmj w1 a = pmj w a) :
    pmCl cl ty cI cZ cJ φ1 w1 a = pmCl cl ty cI cZ cJ φ w a := by
  have hr : ∀ k t, pmRd w1 a k t = pmRd w a k t := fun k t => by unfold pmRd; rw [e2, e3, e4]
  unfold pmCl
  rw [e1, e3, e4]
  split
  · rfl
  · rfl
  · rfl
  · congr 2
    exact List.map_congr_left fun k _ => by rw [hr]; exact pmV_agree hφ (fun b hb => pmRd_ref hw hb)
theorem pmWd_new {q : Nat} {h : (FieldType × Nat) ⊕ Nat} {n : Nat} (hw : ∀ a k b, pmr w a k = some b → b ≤ pmn w) :
    pmWd cl ty cI cZ cJ (va_up φ (pmn w + 1) q) (pmNew w h n) = pmWd cl ty cI cZ cJ φ w ++ [(q, pmCl cl ty cI cZ cJ (va_up φ (pmn w + 1) q) (pmNew w h n) (pmn w + 1))] := by
  unfold pmWd
  show (List.range (pmn w + 1)).map _ = _
  rw [List.range_succ, List.map_append]
  congr 1
  · refine List.map_congr_left fun j hj => ?_
    have hj := List.mem_range.mp hj
    have hne : ¬ j + 1 = pmn w + 1 := by omega
    have e : va_up φ (pmn w + 1) q (j + 1) = φ (j + 1) := by simp only [va_up]; rw [if_neg hne]
    rw [e]
    congr 1
    refine pmCl_agree (n := pmn w) (fun a ha => ?_) hw ?_ ?_ ?_ ?_
    · simp only [va_up]; rw [if_neg (by omega)]
    · show va_up _ _ _ _ = _; simp only [va_up]; rw [if_neg hne]
    · show va_up _ _ _ _ = _; simp only [va_up]; rw [if_neg hne]
    · show va_up _ _ _ _ = _; simp only [va_up]; rw [if_neg hne]
    · show va_up _ _ _ _ = _; simp only [va_up]; rw [if_neg hne]
  · simp [va_up]
end PMB
end
section
/-! ===== THE PURE MACHINE (3): steps on the world are sound ===== -/
def pmInv (cl : List vw_C) (ty : Nat → Nat → FieldType) (dC : Nat → ClassId) (dI : Nat → Nat → Nat) (cI cZ cJ : ClassId) (A : Nat → Prop) (s : State) (b L : Nat) (xs : Nat → Int32) (φ : Nat → Nat) (w : pmW) (H : Heap) (locs : List Loc) : Prop :=
  va_P (dC, dI) cl (pmWd cl ty cI cZ cJ φ w) H ∧ va_D A (pmWd cl ty cI cZ cJ φ w) ∧ va_S A s.heap H locs ∧ (∀ a k b, pmr w a k = some b → b ≤ pmn w) ∧ φ 0 = b ∧ pmh w 0 = .inl (.int, L) ∧ pmi w 0 = xs
def pmFix (cl : List vw_C) (dC : Nat → ClassId) (dI : Nat → Nat → Nat) (cI cZ cJ : ClassId) (A : Nat → Prop) (s : State) (b L : Nat) (xs : Nat → Int32) : Prop :=
  va_K (dC, dI) cl [(cI, .int), (cZ, .boolean), (cJ, .long)] s ∧ (∀ q, s.heap.size ≤ q → A q) ∧ va_X b L xs s s.heap ∧ b < s.heap.size ∧ ¬ A b
def pmTok : FieldType → Bool
  | .int => true
  | .boolean => true
  | .object _ => true
  | .array _ => true
  | _ => false
def pmClOk (cl : List vw_C) (ty : Nat → Nat → FieldType) : Prop := ∀ (ci : Nat) (q : vw_C), cl[ci]? = some q → (∀ k, k < q.2.2 → parseFieldDescriptor (q.2.1 k).2.2.1 = some (ty ci k)) ∧ (∀ a, a < q.2.2 → ∀ b, b < q.2.2 → a ≠ b → (q.2.1 a).2.1 ≠ (q.2.1 b).2.1) ∧ ∀ k, k < q.2.2 → pmTok (ty ci k) = true
section PMC
variable {cl : List vw_C} {ty : Nat → Nat → FieldType} {cI cZ cJ : ClassId} {φ φ1 : Nat → Nat} {w w1 : pmW}
theorem pmCl_obj {a ci : Nat} (h : pmh w a = .inr ci) : pmCl cl ty cI cZ cJ φ w a = .inr (ci, (List.range (pmN cl ci)).map (fun k => pmV φ (pmRd w a k (ty ci k)))) := by unfold pmCl; rw [h]
theorem pmCl_int {a n : Nat} (h : pmh w a = .inl (.int, n)) : pmCl cl ty cI cZ cJ φ w a = .inl (cI, n, .inl (pmi w a)) := by unfold pmCl; rw [h]
theorem pmCl_bool {a n : Nat} (h : pmh w a = .inl (.boolean, n)) : pmCl cl ty cI cZ cJ φ w a = .inl (cZ, n, .inl (pmi w a)) := by unfold pmCl; rw [h]
theorem pmCl_long {a n : Nat} (h : pmh w a = .inl (.long, n)) : pmCl cl ty cI cZ cJ φ w a = .inl (cJ, n, .inr (.inl (pmj w a))) := by unfold pmCl; rw [h]
theorem pmCl_arr {a n : Nat} {t : FieldType} (h : pmh w a = .inl (t, n)) : ∃ (cA : ClassId) (x : vp_A) (t1 : FieldType) (j : Nat), pmCl cl ty cI cZ cJ φ w a = .inl (cA, x) ∧ x.1 = n ∧ [(cI, FieldType.int), (cZ, .boolean), (cJ, .long)][j]? = some (cA, t1) := by
  by_cases h1 : t = .long
  · subst h1; exact ⟨_, _, .long, 2, pmCl_long h, rfl, rfl⟩
  · by_cases h2 : t = .boolean
    · subst h2; exact ⟨_, _, .boolean, 1, pmCl_bool h, rfl, rfl⟩
    · refine ⟨cI, (n, .inl (pmi w a)), .int, 0, ?_, rfl, rfl⟩
      unfold pmCl
      rw [h]
      cases t <;> first | rfl | exact absurd rfl h1 | exact absurd rfl h2
theorem pmN_of {ci : Nat} {q : vw_C} (h : cl[ci]? = some q) : pmN cl ci = q.2.2 := by unfold pmN; rw [h]
theorem pmFs_at {ci a k : Nat} (hk : k < pmN cl ci) : ((List.range (pmN cl ci)).map (fun k => pmV φ (pmRd w a k (ty ci k))))[k]? = some (pmV φ (pmRd w a k (ty ci k))) := by
  rw [List.getElem?_map, List.getElem?_range hk]; rfl
theorem pmUI_eq (f : Nat → Nat → Int32) (a k : Nat) (v : Int32) : pmUI f a k v a = upd (f a) k v := by simp [pmUI]
theorem pmUI_ne (f : Nat → Nat → Int32) {a b : Nat} (k : Nat) (v : Int32) (h : b ≠ a) : pmUI f a k v b = f b := by simp [pmUI, h]
theorem pmUJ_eq (f : Nat → Nat → Int64) (a k : Nat) (v : Int64) : pmUJ f a k v a = vp_updL (f a) k v := by simp [pmUJ]
theorem pmUJ_ne (f : Nat → Nat → Int64) {a b : Nat} (k : Nat) (v : Int64) (h : b ≠ a) : pmUJ f a k v b = f b := by simp [pmUJ, h]
theorem pmUR_eq (f : Nat → Nat → Option Nat) (a k : Nat) (v : Option Nat) : pmUR f a k v a = va_up (f a) k v := by simp [pmUR]
theorem pmUR_ne (f : Nat → Nat → Option Nat) {a b : Nat} (k : Nat) (v : Option Nat) (h : b ≠ a) : pmUR f a k v b = f b := by simp [pmUR, h]
/-- what a store into a field does -/
theorem pmWr_spec {a k : Nat} {t : FieldType} {v : Value} (h : pmWr w a k t v = some w1) :
    (pmn w1 = pmn w ∧ pmnc w1 = pmnc w ∧ pmns w1 = pmns w ∧ pmh w1 = pmh w) ∧ (∀ b, b ≠ a → pmr w1 b = pmr w b ∧ pmi w1 b = pmi w b ∧ pmj w1 b = pmj w b) ∧ pmRd w1 a k t = v ∧ (∀ j t', j ≠ k → pmRd w1 a j t' = pmRd w a j t') ∧
    (∀ n, (∀ a k b, pmr w a k = some b → b ≤ n) → (∀ b, v = .ref b → b ≤ n) → ∀ a k b, pmr w1 a k = some b → b ≤ n) ∧ ∀ φ : Nat → Nat, narrow t (pmV φ v) = pmV φ v ∧ fits t (pmV φ v) = true := by
  have goI : ∀ z : Int32, w1 = (w.1, w.2.1, w.2.2.1, w.2.2.2.1, w.2.2.2.2.1, pmUI w.2.2.2.2.2.1 a k z, w.2.2.2.2.2.2) →
      (pmn w1 = pmn w ∧ pmnc w1 = pmnc w ∧ pmns w1 = pmns w ∧ pmh w1 = pmh w) ∧ (∀ b, b ≠ a → pmr w1 b = pmr w b ∧ pmi w1 b = pmi w b ∧ pmj w1 b = pmj w b) ∧ pmi w1 a k = z ∧ (∀ j t', j ≠ k → pmRd w1 a j t' = pmRd w a j t') ∧
      (∀ n, (∀ a k b, pmr w a k = some b → b ≤ n) → ∀ a k b, pmr w1 a k = some b → b ≤ n) := by
    intro z e
    subst e
    refine ⟨⟨rfl, rfl, rfl, rfl⟩, fun b hb => ⟨rfl, pmUI_ne _ _ _ hb, rfl⟩, ?_, fun j t' hj => ?_, fun n h => h⟩
    · show pmUI _ a k z a k = z
      rw [pmUI_eq]; simp [upd]
    · have e : pmUI (pmi w) a k z a j = pmi w a j := by rw [pmUI_eq]; simp [upd, hj]
      unfold pmRd
      split <;> first | rfl | exact congrArg Value.int e
  have goR : ∀ z : Nat, w1 = (w.1, w.2.1, w.2.2.1, w.2.2.2.1, pmUR w.2.2.2.2.1 a k (some z), w.2.2.2.2.2.1, w.2.2.2.2.2.2) →
      (pmn w1 = pmn w ∧ pmnc w1 = pmnc w ∧ pmns w1 = pmns w ∧ pmh w1 = pmh w) ∧ (∀ b, b ≠ a → pmr w1 b = pmr w b ∧ pmi w1 b = pmi w b ∧ pmj w1 b = pmj w b) ∧ pmr w1 a k = some z ∧ (∀ j t', j ≠ k → pmRd w1 a j t' = pmRd w a j t') ∧
      (∀ n, (∀ a k b, pmr w a k = some b → b ≤ n) → z ≤ n → ∀ a k b, pmr w1 a k = some b → b ≤ n) := by
    intro z e
    subst e
    refine ⟨⟨rfl, rfl, rfl, rfl⟩, fun b hb => ⟨pmUR_ne _ _ _ hb, rfl, rfl⟩, ?_, fun j t' hj => ?_, fun n hr hz a1 k1 b1 h1 => ?_⟩
    · show pmUR _ a k (some z) a k = some z
      rw [pmUR_eq]; simp [va_up]
    · have e : pmUR (pmr w) a k (some z) a j = pmr w a j := by rw [pmUR_eq]; simp [va_up, hj]
      unfold pmRd
      split <;> first | rfl | exact congrArg pmRf e
    · have h1 : pmUR (pmr w) a k (some z) a1 k1 = some b1 := h1
      by_cases ha : a1 = a
      · subst ha
        rw [pmUR_eq] at h1
        by_cases hk : k1 = k
        · subst hk
          simp [va_up] at h1
          omega
        · simp [va_up, hk] at h1
          exact hr _ _ _ h1
      · rw [pmUR_ne _ _ _ ha] at h1
        exact hr _ _ _ h1
  unfold pmWr at h
  split at h
  · split at h
    · rename_i z
      obtain ⟨g1, g2, g3, g4, g5⟩ := goI z (Option.some.inj h).symm
      exact ⟨g1, g2, congrArg Value.int g3, g4, fun n h1 _ => g5 n h1, fun φ => ⟨rfl, rfl⟩⟩
    · cases h
  · split at h
    · rename_i z
      split at h
      · rename_i hz
        obtain ⟨g1, g2, g3, g4, g5⟩ := goI z (Option.some.inj h).symm
        refine ⟨g1, g2, congrArg Value.int g3, g4, fun n h1 _ => g5 n h1, fun φ => ?_⟩
        rcases hz with rfl | rfl
        · show narrow .boolean (.int 0) = .int 0 ∧ fits .boolean (.int 0) = true
          decide
        · show narrow .boolean (.int 1) = .int 1 ∧ fits .boolean (.int 1) = true
          decide
      · cases h
    · cases h
  · split at h
    · rename_i z
      obtain ⟨g1, g2, g3, g4, g5⟩ := goR z (Option.some.inj h).symm
      exact ⟨g1, g2, congrArg pmRf g3, g4, fun n h1 h2 => g5 n h1 (h2 z rfl), fun φ => ⟨rfl, rfl⟩⟩
    · cases h
  · split at h
    · rename_i z
      obtain ⟨g1, g2, g3, g4, g5⟩ := goR z (Option.some.inj h).symm
      exact ⟨g1, g2, congrArg pmRf g3, g4, fun n h1 h2 => g5 n h1 (h2 z rfl), fun φ => ⟨rfl, rfl⟩⟩
    · cases h
  · cases h
/-- the object's cell behind a store into it -/
theorem pmCl_put {a ci k : Nat} {v : Value} (hh : pmh w a = .inr ci) (h1 : pmh w1 a = pmh w a) (h2 : pmRd w1 a k (ty ci k) = v) (h3 : ∀ j t', j ≠ k → pmRd w1 a j t' = pmRd w a j t') :
    pmCl cl ty cI cZ cJ φ w1 a = .inr (ci, ((List.range (pmN cl ci)).map (fun k => pmV φ (pmRd w a k (ty ci k)))).set k (pmV φ v)) := by
  rw [pmCl_obj (h1.trans hh)]
  congr 2
  refine List.ext_getElem? fun j => ?_
  rw [List.getElem?_set]
  by_cases hj : j < pmN cl ci
  · rw [pmFs_at hj]
    by_cases e : k = j
    · subst e
      rw [if_pos rfl, if_pos (by simpa using hj), h2]
    · rw [if_neg e, pmFs_at hj, h3 j _ (fun q => e q.symm)]
  · rw [List.getElem?_eq_none (by simpa using hj)]
    split
    · rw [if_neg (by simp; omega)]
    · rw [List.getElem?_eq_none (by simpa using hj)]
/-- the other cells behind a store -/
theorem pmCl_other {a : Nat} (hw : ∀ a k b, pmr w a k = some b → b ≤ pmn w) (h1 : pmh w1 = pmh w) (h2 : ∀ b, b ≠ a → pmr w1 b = pmr w b ∧ pmi w1 b = pmi w b ∧ pmj w1 b = pmj w b) : ∀ b, b ≠ a → pmCl cl ty cI cZ cJ φ w1 b = pmCl cl ty cI cZ cJ φ w b :=
  fun b hb => pmCl_agree (n := pmn w) (fun _ _ => rfl) hw (congrFun h1 b) (h2 b hb).1 (h2 b hb).2.1 (h2 b hb).2.2
end PMC
end
section
theorem pmNew_h {w : pmW} {h : (FieldType × Nat) ⊕ Nat} {n : Nat} : pmh (pmNew w h n) (pmn w + 1) = h := by
  show va_up w.2.2.2.1 (w.1 + 1) h (w.1 + 1) = h
  simp [va_up]
theorem pmNew_r {w : pmW} {h : (FieldType × Nat) ⊕ Nat} {n : Nat} : pmr (pmNew w h n) (pmn w + 1) = fun _ => none := by
  show va_up w.2.2.2.2.1 (w.1 + 1) _ (w.1 + 1) = _
  simp [va_up]
theorem pmNew_i {w : pmW} {h : (FieldType × Nat) ⊕ Nat} {n : Nat} : pmi (pmNew w h n) (pmn w + 1) = fun _ => 0 := by
  show va_up w.2.2.2.2.2.1 (w.1 + 1) _ (w.1 + 1) = _
  simp [va_up]
theorem pmNew_j {w : pmW} {h : (FieldType × Nat) ⊕ Nat} {n : Nat} : pmj (pmNew w h n) (pmn w + 1) = fun _ => 0 := by
  show va_up w.2.2.2.2.2.2 (w.1 + 1) _ (w.1 + 1) = _
  simp [va_up]
section PMD
variable {p : Program} {l : Launch} {e : Env} {R : Room} {s : State} {m : MethodId} {args : Array Value} {below : List Frame} {meth : Method} {c : Code} {H : Heap} {locs : List Loc} {cells slots : Nat} {Q : State → Prop}
variable {cl : List vw_C} {ty : Nat → Nat → FieldType} {dC : Nat → ClassId} {dI : Nat → Nat → Nat} {cI cZ cJ : ClassId} {A : Nat → Prop} {b L : Nat} {xs : Nat → Int32}
variable {cc : ByteArray} {nL pc pc1 x y : Nat} {lo lo1 : pmL} {st st1 : List Value} {φ : Nat → Nat} {own : String} {mb : Cond → Bool} {ls : Array Slot} {w w1 : pmW} {ini : Bool}
set_option maxHeartbeats 4000000 in
theorem pm_soundB (hcl : pmClOk cl ty) (hx : p.tables.exec = Jvm.exec) (hb : c.code = cc) (hown : s.vm.findClass own = some m.cls) (hts : ∀ w, mb w = true → w.before args s = true) (hcw : ∀ (ci : Nat) (q : vw_C), cl[ci]? = some q → ∀ w ∈ u_ws q.1 q.2.1 q.2.2, w.before args s = true) (hini : ini = true → meth.name = "<init>") {i : Instr}
    (F : pmFix cl dC dI cI cZ cJ A s b L xs) (ok : pmOkB cl own ini mb cc pc i x y = true) (h : pmB ty (pmN cl) i x y pc lo st w = some (pc1, lo1, st1, w1)) (hl : lv_has ls nL (pmLv φ lo)) (I : pmInv cl ty dC dI cI cZ cJ A s b L xs φ w H locs)
    (hlo : ∀ i a, pmGet lo i = some (.ref a) → a ≤ pmn w) (hst : ∀ a, Value.ref a ∈ st → a ≤ pmn w)
    (hc : cells + pmnc w1 ≤ R.cells + pmnc w) (hs : slots + pmns w1 ≤ R.slots + pmns w)
    (kk : ∀ (φ1 : Nat → Nat) (ls1 : Array Slot) (H1 : Heap) (locs1 : List Loc) (cells1 slots1 : Nat), (∀ a, a ≤ pmn w → φ1 a = φ a) → lv_has ls1 nL (pmLv φ1 lo1) → pmInv cl ty dC dI cI cZ cJ A s b L xs φ1 w1 H1 locs1 → cells1 + pmnc w = cells + pmnc w1 → slots1 + pmns w = slots + pmns w1 →
      W p l e R s m args below meth c H1 locs1 cells1 slots1 Q (F0 m pc1 ls1 (st1.map (pmV φ1)))) :
    W p l e R s m args below meth c H locs cells slots Q (F0 m pc ls (st.map (pmV φ))) := by
  obtain ⟨hK, hA, hX, hbl, hbA⟩ := F
  obtain ⟨hP, hD, hS, hw, h0, hh0, hi0⟩ := id I
  have new0 : ∀ (hd : (FieldType × Nat) ⊕ Nat) (n : Nat) (q : Nat) (H1 : Heap), va_P (dC, dI) cl (pmWd cl ty cI cZ cJ φ w ++ [(q, pmCl cl ty cI cZ cJ (va_up φ (pmn w + 1) q) (pmNew w hd n) (pmn w + 1))]) H1 → va_D A (pmWd cl ty cI cZ cJ φ w ++ [(q, pmCl cl ty cI cZ cJ (va_up φ (pmn w + 1) q) (pmNew w hd n) (pmn w + 1))]) → va_S A s.heap H1 locs →
      pmInv cl ty dC dI cI cZ cJ A s b L xs (va_up φ (pmn w + 1) q) (pmNew w hd n) H1 locs := by
    intro hd n q H1 h1 h2 h3
    rw [← pmWd_new hw] at h1 h2
    refine ⟨h1, h2, h3, fun a k z hz => ?_, ?_, ?_, ?_⟩
    · have hz : va_up (pmr w) (pmn w + 1) (fun _ => none) a k = some z := hz
      show z ≤ pmn w + 1
      by_cases e : a = pmn w + 1
      · simp [va_up, e] at hz
      · simp only [va_up, if_neg e] at hz
        exact Nat.le_succ_of_le (hw _ _ _ hz)
    · simp only [va_up]; rw [if_neg (by omega)]; exact h0
    · show va_up (pmh w) (pmn w + 1) hd 0 = _
      simp only [va_up]; rw [if_neg (by omega)]; exact hh0
    · show va_up (pmi w) (pmn w + 1) (fun _ => 0) 0 = _
      simp only [va_up]; rw [if_neg (by omega)]; exact hi0
  have up1 : ∀ q a, a ≤ pmn w → va_up φ (pmn w + 1) q a = φ a := fun q a ha => by simp only [va_up]; rw [if_neg (by omega)]
  have up2 : ∀ q, va_up φ (pmn w + 1) q (pmn w + 1) = q := fun q => by simp [va_up]
  have lup : ∀ q, lv_has ls nL (pmLv (va_up φ (pmn w + 1) q) lo) := fun q => by rw [pmLv_agree (up1 q) hlo]; exact hl
  have inv0 : ∀ {a : Nat} {w1 : pmW}, 1 ≤ a → a ≤ pmn w → pmn w1 = pmn w → pmh w1 = pmh w → (∀ b, b ≠ a → pmr w1 b = pmr w b ∧ pmi w1 b = pmi w b ∧ pmj w1 b = pmj w b) → (∀ a k b, pmr w1 a k = some b → b ≤ pmn w) →
      ∀ (E : va_E) (H1 : Heap) (locs1 : List Loc), pmCl cl ty cI cZ cJ φ w1 a = E → va_P (dC, dI) cl ((pmWd cl ty cI cZ cJ φ w).set (a - 1) (φ a, E)) H1 → va_D A ((pmWd cl ty cI cZ cJ φ w).set (a - 1) (φ a, E)) → va_S A s.heap H1 locs1 → pmInv cl ty dC dI cI cZ cJ A s b L xs φ w1 H1 locs1 := by
    intro a w1 g1 g2 g3 g4 g5 g6 E H1 locs1 gE gP gD gS
    subst gE
    rw [← pmWd_set g1 g2 g3 (pmCl_other hw g4 g5)] at gP gD
    exact ⟨gP, gD, gS, by rw [g3]; exact g6, h0, by rw [g4]; exact hh0, by rw [(g5 0 (by omega)).2.1]; exact hi0⟩
  unfold pmB at h
  split at h
  · -- getfield
    rename_i n
    split at h
    · rename_i a r
      split at h
      · rename_i ci hh
        split at h
        · rename_i hq
          obtain ⟨rfl, q1, q2⟩ := hq
          cases h
          simp only [pmOkB, Bool.and_eq_true, decide_eq_true_eq] at ok
          obtain ⟨o1, o2⟩ := ok
          split at o2
          · rename_i C T N hci
            simp only [Bool.and_eq_true, decide_eq_true_eq] at o2
            obtain ⟨o3, o5⟩ := o2
            refine va_get (D := (dC, dI)) (ws := pmWd cl ty cI cZ cJ φ w) hx hb (hcw _ _ hci) (fun _ h => h) hown hK hP (a - 1) (by rw [pmWd_at q1 q2, pmCl_obj hh]) hci y o3 (hts _ o5) (fun _ h => h) (pmFs_at (by rw [pmN_of hci]; exact o3)) o1 ?_
            exact kk φ ls H locs cells slots (fun _ _ => rfl) hl I rfl rfl
          · cases o2
        · cases h
      · cases h
    · cases h
  · -- putfield
    rename_i n
    split at h
    · rename_i v a r
      split at h
      · rename_i ci hh
        split at h
        · rename_i hq
          obtain ⟨rfl, q1, q2⟩ := hq
          split at h
          · rename_i w2 hwr
            cases h
            obtain ⟨⟨g1, g1b, g1c, g2⟩, g3, g4, g5, g6, g7⟩ := pmWr_spec hwr
            have hvn : ∀ z, v = .ref z → z ≤ pmn w := fun z hz => hst z (by rw [hz]; simp)
            simp only [pmOkB, Bool.and_eq_true, decide_eq_true_eq] at ok
            obtain ⟨o1, o2⟩ := ok
            split at o2
            · rename_i C T N hci
              simp only [Bool.and_eq_true, decide_eq_true_eq, Bool.or_eq_true] at o2
              obtain ⟨o3, o5, o6⟩ := o2
              have hN : pmN cl ci = N := pmN_of hci
              obtain ⟨t1, t2, -⟩ := hcl ci _ hci
              have hE := pmCl_put (cl := cl) (ty := ty) (cI := cI) (cZ := cZ) (cJ := cJ) (φ := φ) hh (congrFun g2 a) g4 g5
              have kk1 := fun (H1 : Heap) (locs1 : List Loc) gP gD gS => kk φ ls H1 locs1 cells slots (fun _ _ => rfl) hl (inv0 q1 q2 g1 g2 g3 (g6 _ hw hvn) _ H1 locs1 hE gP gD gS) (by rw [g1b]) (by rw [g1c])
              rcases o6 with o6 | ⟨o6, o7, o8⟩
              · exact va_put (D := (dC, dI)) (ws := pmWd cl ty cI cZ cJ φ w) hx hb (hcw _ _ hci) (fun _ h => h) (ty ci) t1 t2 hown hK hP hD hS (a - 1) (by rw [pmWd_at q1 q2, pmCl_obj hh]) hci y o3 (hts _ o5) (fun _ h => h) o6 (t1 y o3) (g7 φ).1 (g7 φ).2 (by simp [hN]; exact o3) o1 kk1
              · exact va_putF (D := (dC, dI)) (ws := pmWd cl ty cI cZ cJ φ w) hx hb (hcw _ _ hci) (fun _ h => h) (ty ci) t1 t2 hown hK hP hD hS (a - 1) (by rw [pmWd_at q1 q2, pmCl_obj hh]) hci y o3 (hts _ o5) (fun _ h => h) o7 (hini o6) o8 (t1 y o3) (g7 φ).1 (g7 φ).2 (by simp [hN]; exact o3) o1 kk1
            · cases o2
          · cases h
        · cases h
      · cases h
    · cases h
  · -- iaload
    simp only [pmOkB, decide_eq_true_eq] at ok
    split at h
    · rename_i j a r
      split at h
      · rename_i n hh
        split at h
        · rename_i q2
          split at h
          · cases h
          · rename_i hin
            cases h
            by_cases ha : a = 0
            · subst ha
              rw [hh0] at hh
              cases hh
              rw [hi0] at kk
              show W p l e R s m args below meth c H locs cells slots Q (F0 m pc ls (.int j :: .ref (φ 0) :: r.map (pmV φ)))
              rw [h0]
              exact va_sld hx hb hX hbl hbA hS hin ok (kk φ ls H locs cells slots (fun _ _ => rfl) hl I rfl rfl)
            · exact va_iald (D := (dC, dI)) (ws := pmWd cl ty cI cZ cJ φ w) hx hb hK hP (a - 1) 0 (by rw [pmWd_at (Nat.pos_of_ne_zero ha) q2, pmCl_int hh]) rfl hin ok (kk φ ls H locs cells slots (fun _ _ => rfl) hl I rfl rfl)
        · cases h
      · cases h
    · cases h
  · -- baload
    simp only [pmOkB, decide_eq_true_eq] at ok
    split at h
    · rename_i j a r
      split at h
      · rename_i n hh
        split at h
        · rename_i q2
          split at h
          · cases h
          · rename_i hin
            cases h
            exact va_zald (D := (dC, dI)) (ws := pmWd cl ty cI cZ cJ φ w) hx hb hK hP (a - 1) 1 (by rw [pmWd_at q2.1 q2.2, pmCl_bool hh]) rfl hin ok (kk φ ls H locs cells slots (fun _ _ => rfl) hl I rfl rfl)
        · cases h
      · cases h
    · cases h
  · -- laload
    simp only [pmOkB, decide_eq_true_eq] at ok
    split at h
    · rename_i j a r
      split at h
      · rename_i n hh
        split at h
        · rename_i q2
          split at h
          · cases h
          · rename_i hin
            cases h
            exact va_lald (D := (dC, dI)) (ws := pmWd cl ty cI cZ cJ φ w) hx hb hK hP (a - 1) 2 (by rw [pmWd_at q2.1 q2.2, pmCl_long hh]) rfl hin ok (kk φ ls H locs cells slots (fun _ _ => rfl) hl I rfl rfl)
        · cases h
      · cases h
    · cases h
  · -- iastore
    simp only [pmOkB, decide_eq_true_eq] at ok
    split at h
    · rename_i v j a r
      split at h
      · rename_i n hh
        split at h
        · rename_i q2
          split at h
          · cases h
          · rename_i hin
            cases h
            refine va_iast (D := (dC, dI)) (ws := pmWd cl ty cI cZ cJ φ w) hx hb hK hP hD hS (a - 1) 0 (by rw [pmWd_at q2.1 q2.2, pmCl_int hh]) rfl hin ok (fun H1 locs1 gP gD gS => kk φ ls H1 locs1 cells slots (fun _ _ => rfl) hl (inv0 (w1 := (w.1, w.2.1, w.2.2.1, w.2.2.2.1, w.2.2.2.2.1, pmUI w.2.2.2.2.2.1 a j.toNatClampNeg v, w.2.2.2.2.2.2)) q2.1 q2.2 rfl rfl (fun b hb => ⟨rfl, pmUI_ne _ _ _ hb, rfl⟩) hw _ H1 locs1 ?_ gP gD gS) rfl rfl)
            exact (pmCl_int (w := (w.1, w.2.1, w.2.2.1, w.2.2.2.1, w.2.2.2.2.1, pmUI w.2.2.2.2.2.1 a j.toNatClampNeg v, w.2.2.2.2.2.2)) (n := n) hh).trans (congrArg (fun f => Sum.inl (cI, n, Sum.inl f)) (pmUI_eq _ _ _ _))
        · cases h
      · cases h
    · cases h
  · -- bastore
    simp only [pmOkB, decide_eq_true_eq] at ok
    split at h
    · rename_i v j a r
      split at h
      · rename_i n hh
        split at h
        · rename_i q2
          split at h
          · cases h
          · rename_i hin
            cases h
            refine va_zast (D := (dC, dI)) (ws := pmWd cl ty cI cZ cJ φ w) hx hb hK hP hD hS (a - 1) 1 (by rw [pmWd_at q2.1 q2.2, pmCl_bool hh]) rfl hin ok (fun H1 locs1 gP gD gS => kk φ ls H1 locs1 cells slots (fun _ _ => rfl) hl (inv0 (w1 := (w.1, w.2.1, w.2.2.1, w.2.2.2.1, w.2.2.2.2.1, pmUI w.2.2.2.2.2.1 a j.toNatClampNeg (vp_nar .boolean v), w.2.2.2.2.2.2)) q2.1 q2.2 rfl rfl (fun b hb => ⟨rfl, pmUI_ne _ _ _ hb, rfl⟩) hw _ H1 locs1 ?_ gP gD gS) rfl rfl)
            exact (pmCl_bool (w := (w.1, w.2.1, w.2.2.1, w.2.2.2.1, w.2.2.2.2.1, pmUI w.2.2.2.2.2.1 a j.toNatClampNeg (vp_nar .boolean v), w.2.2.2.2.2.2)) (n := n) hh).trans (congrArg (fun f => Sum.inl (cZ, n, Sum.inl f)) (pmUI_eq _ _ _ _))
        · cases h
      · cases h
    · cases h
  · -- lastore
    simp only [pmOkB, decide_eq_true_eq] at ok
    split at h
    · rename_i v j a r
      split at h
      · rename_i n hh
        split at h
        · rename_i q2
          split at h
          · cases h
          · rename_i hin
            cases h
            refine va_last (D := (dC, dI)) (ws := pmWd cl ty cI cZ cJ φ w) hx hb hK hP hD hS (a - 1) 2 (by rw [pmWd_at q2.1 q2.2, pmCl_long hh]) rfl hin ok (fun H1 locs1 gP gD gS => kk φ ls H1 locs1 cells slots (fun _ _ => rfl) hl (inv0 (w1 := (w.1, w.2.1, w.2.2.1, w.2.2.2.1, w.2.2.2.2.1, w.2.2.2.2.2.1, pmUJ w.2.2.2.2.2.2 a j.toNatClampNeg v)) q2.1 q2.2 rfl rfl (fun b hb => ⟨rfl, rfl, pmUJ_ne _ _ _ hb⟩) hw _ H1 locs1 ?_ gP gD gS) rfl rfl)
            exact (pmCl_long (w := (w.1, w.2.1, w.2.2.1, w.2.2.2.1, w.2.2.2.2.1, w.2.2.2.2.2.1, pmUJ w.2.2.2.2.2.2 a j.toNatClampNeg v)) (n := n) hh).trans (congrArg (fun f => Sum.inl (cJ, n, Sum.inr (Sum.inl f))) (pmUJ_eq _ _ _ _))
        · cases h
      · cases h
    · cases h
  · -- arraylength
    simp only [pmOkB, decide_eq_true_eq] at ok
    split at h
    · rename_i a r
      split at h
      · rename_i t n hh
        split at h
        · rename_i q2
          cases h
          by_cases ha : a = 0
          · subst ha
            rw [hh0] at hh
            cases hh
            show W p l e R s m args below meth c H locs cells slots Q (F0 m pc ls (.ref (φ 0) :: r.map (pmV φ)))
            rw [h0]
            exact va_slen hx hb hX hbl hbA hS ok (kk φ ls H locs cells slots (fun _ _ => rfl) hl I rfl rfl)
          · obtain ⟨cA, z, t1, j, e1, e2, e3⟩ := pmCl_arr (cl := cl) (ty := ty) (cI := cI) (cZ := cZ) (cJ := cJ) (φ := φ) hh
            exact va_alen (D := (dC, dI)) (ws := pmWd cl ty cI cZ cJ φ w) hx hb hK hP (a - 1) j (by rw [pmWd_at (Nat.pos_of_ne_zero ha) q2, e1]) e3 (by rw [e2]) ok (kk φ ls H locs cells slots (fun _ _ => rfl) hl I rfl rfl)
        · cases h
      · cases h
    · cases h
  · -- newarray int
    simp only [pmOkB, Bool.and_eq_true, decide_eq_true_eq] at ok
    split at h
    · rename_i n r
      split at h
      · cases h
      · rename_i hn
        cases h
        have hn1 : ¬ n < 0 := fun q => hn (Or.inl q)
        have hn2 : n.toNatClampNeg ≤ 65536 := by omega
        refine va_newa (D := (dC, dI)) (ws := pmWd cl ty cI cZ cJ φ w) hx hb (hts _ ok.2) rfl hK hP hD hS hA (a0 := (n.toNatClampNeg, .inl (fun _ => 0))) (fun _ => rfl) hn1 rfl (by show n.toNatClampNeg * 4 ≤ _; omega) (by simp only [pmnc, pmNew] at hc; omega) (by simp only [pmns, pmNew] at hs; omega) ok.1 (fun q cA H1 hK1 hP1 hD1 hS1 => ?_)
        have e1 : cA = cI := Option.some.inj ((va_nm_int (hK1.2 3 (cA, .int) rfl).2).symm.trans (va_nm_int (hK.2 0 (cI, .int) rfl).2))
        subst e1
        have hE : pmCl cl ty cA cZ cJ (va_up φ (pmn w + 1) q) (pmNew w (.inl (.int, n.toNatClampNeg)) n.toNatClampNeg) (pmn w + 1) = .inl (cA, n.toNatClampNeg, .inl (fun _ => 0)) := by
          rw [pmCl_int (n := n.toNatClampNeg) pmNew_h, pmNew_i]
        have k1 := kk (va_up φ (pmn w + 1) q) ls H1 locs (cells + 1) (slots + n.toNatClampNeg) (up1 q) (lup q) (new0 _ _ q H1 (by rw [hE]; exact hP1) (by rw [hE]; exact hD1) hS1) (by simp only [pmnc, pmNew]; omega) (by simp only [pmns, pmNew]; omega)
        rw [List.map_cons, pmSt_agree (up1 q) (fun a ha => hst a (List.mem_cons_of_mem _ ha))] at k1
        simp only [pmV, up2] at k1
        exact k1
    · cases h
  · -- newarray boolean
    simp only [pmOkB, Bool.and_eq_true, decide_eq_true_eq] at ok
    split at h
    · rename_i n r
      split at h
      · cases h
      · rename_i hn
        cases h
        have hn1 : ¬ n < 0 := fun q => hn (Or.inl q)
        have hn2 : n.toNatClampNeg ≤ 65536 := by omega
        refine va_newa (D := (dC, dI)) (ws := pmWd cl ty cI cZ cJ φ w) hx hb (hts _ ok.2) rfl hK hP hD hS hA (a0 := (n.toNatClampNeg, .inl (fun _ => 0))) (fun _ => rfl) hn1 rfl (by show n.toNatClampNeg * 1 ≤ _; omega) (by simp only [pmnc, pmNew] at hc; omega) (by simp only [pmns, pmNew] at hs; omega) ok.1 (fun q cA H1 hK1 hP1 hD1 hS1 => ?_)
        have e1 : cA = cZ := Option.some.inj ((va_nm_boolean (hK1.2 3 (cA, .boolean) rfl).2).symm.trans (va_nm_boolean (hK.2 1 (cZ, .boolean) rfl).2))
        subst e1
        have hE : pmCl cl ty cI cA cJ (va_up φ (pmn w + 1) q) (pmNew w (.inl (.boolean, n.toNatClampNeg)) n.toNatClampNeg) (pmn w + 1) = .inl (cA, n.toNatClampNeg, .inl (fun _ => 0)) := by
          rw [pmCl_bool (n := n.toNatClampNeg) pmNew_h, pmNew_i]
        have k1 := kk (va_up φ (pmn w + 1) q) ls H1 locs (cells + 1) (slots + n.toNatClampNeg) (up1 q) (lup q) (new0 _ _ q H1 (by rw [hE]; exact hP1) (by rw [hE]; exact hD1) hS1) (by simp only [pmnc, pmNew]; omega) (by simp only [pmns, pmNew]; omega)
        rw [List.map_cons, pmSt_agree (up1 q) (fun a ha => hst a (List.mem_cons_of_mem _ ha))] at k1
        simp only [pmV, up2] at k1
        exact k1
    · cases h
  · -- newarray long
    simp only [pmOkB, Bool.and_eq_true, decide_eq_true_eq] at ok
    split at h
    · rename_i n r
      split at h
      · cases h
      · rename_i hn
        cases h
        have hn1 : ¬ n < 0 := fun q => hn (Or.inl q)
        have hn2 : n.toNatClampNeg ≤ 65536 := by omega
        refine va_newa (D := (dC, dI)) (ws := pmWd cl ty cI cZ cJ φ w) hx hb (hts _ ok.2) rfl hK hP hD hS hA (a0 := (n.toNatClampNeg, .inr (.inl (fun _ => 0)))) (fun _ => rfl) hn1 rfl (by show n.toNatClampNeg * 8 ≤ _; omega) (by simp only [pmnc, pmNew] at hc; omega) (by simp only [pmns, pmNew] at hs; omega) ok.1 (fun q cA H1 hK1 hP1 hD1 hS1 => ?_)
        have e1 : cA = cJ := Option.some.inj ((va_nm_long (hK1.2 3 (cA, .long) rfl).2).symm.trans (va_nm_long (hK.2 2 (cJ, .long) rfl).2))
        subst e1
        have hE : pmCl cl ty cI cZ cA (va_up φ (pmn w + 1) q) (pmNew w (.inl (.long, n.toNatClampNeg)) n.toNatClampNeg) (pmn w + 1) = .inl (cA, n.toNatClampNeg, .inr (.inl (fun _ => 0))) := by
          rw [pmCl_long (n := n.toNatClampNeg) pmNew_h, pmNew_j]
        have k1 := kk (va_up φ (pmn w + 1) q) ls H1 locs (cells + 1) (slots + n.toNatClampNeg) (up1 q) (lup q) (new0 _ _ q H1 (by rw [hE]; exact hP1) (by rw [hE]; exact hD1) hS1) (by simp only [pmnc, pmNew]; omega) (by simp only [pmns, pmNew]; omega)
        rw [List.map_cons, pmSt_agree (up1 q) (fun a ha => hst a (List.mem_cons_of_mem _ ha))] at k1
        simp only [pmV, up2] at k1
        exact k1
    · cases h
  · -- new
    rename_i n
    cases h
    simp only [pmOkB, Bool.and_eq_true, decide_eq_true_eq] at ok
    obtain ⟨o1, o2⟩ := ok
    split at o2
    · rename_i C T N hci
      simp only [Bool.and_eq_true] at o2
      obtain ⟨o4, o5, o6⟩ := o2
      have hN : pmN cl x = N := pmN_of hci
      obtain ⟨t1, -, t3⟩ := hcl x _ hci
      have hrd : ∀ k, pmRd (pmNew w (.inr x) (pmN cl x)) (pmn w + 1) k (ty x k) = match ty x k with
          | .object _ => .null
          | .array _ => .null
          | .long => .long 0
          | _ => .int 0 := by
        intro k
        unfold pmRd
        rw [pmNew_r, pmNew_i, pmNew_j]
        cases ty x k <;> rfl
      refine va_new (D := (dC, dI)) (C := C) (T := T) (N := N) (ws := pmWd cl ty cI cZ cJ φ w) (fs := (List.range (pmN cl x)).map (fun k => pmV φ (pmRd (pmNew w (.inr x) (pmN cl x)) (pmn w + 1) k (ty x k)))) hx hb (hcw _ _ hci) (fun _ h => h) (ty x) t1 hown (hts _ o4) (hts _ o5) (hts _ o6) hK hP hD hS hA hci (fun j hj => ?_) (by simp only [pmnc, pmNew] at hc; omega) (by simp only [pmns, pmNew, hN] at hs; omega) o1 (fun q H1 hP1 hD1 hS1 => ?_)
      · have hj' : j < pmN cl x := by rw [hN]; exact hj
        have h1 := t3 j hj
        simp only [vp_V, List.getD_eq_getElem?_getD, List.getElem?_map, List.getElem?_range hj', Option.map_some, Option.getD_some, hrd]
        revert h1
        show pmTok (ty x j) = true → _
        cases ty x j <;> simp [pmTok, defaultValue, pmV]
      · have hE : pmCl cl ty cI cZ cJ (va_up φ (pmn w + 1) q) (pmNew w (.inr x) (pmN cl x)) (pmn w + 1) = .inr (x, (List.range (pmN cl x)).map (fun k => pmV φ (pmRd (pmNew w (.inr x) (pmN cl x)) (pmn w + 1) k (ty x k)))) := by
          rw [pmCl_obj (ci := x) pmNew_h]
          congr 2
          refine List.map_congr_left fun k _ => ?_
          rw [hrd]
          split <;> rfl
        have k1 := kk (va_up φ (pmn w + 1) q) ls H1 locs (cells + 1) (slots + N) (up1 q) (lup q) (new0 _ _ q H1 (by rw [hE]; exact hP1) (by rw [hE]; exact hD1) hS1) (by simp only [pmnc, pmNew]; omega) (by simp only [pmns, pmNew, hN]; omega)
        rw [List.map_cons, pmSt_agree (up1 q) hst] at k1
        simp only [pmV, up2] at k1
        exact k1
    · cases o2
  · cases h
end PMD
end
section
/-! ===== THE PURE MACHINE (4): methods ===== -/
abbrev pmE : Type := Nat × Instr × Nat × Nat × Int32
/-- a method: its rows by the 32s of their places, how many locals, its handlers (from, to, at, of which exception), the number of its class -/
abbrev pmM : Type := List (List pmE) × Nat × List (Nat × Nat × Nat × Nat) × Nat
def pmFind : List pmE → Nat → Option (Instr × Nat × Nat × Int32)
  | [], _ => none
  | e :: r, pc => match Nat.beq e.1 pc with
    | true => some e.2
    | false => pmFind r pc
def pmNth : List (List pmE) → Nat → List pmE
  | [], _ => []
  | e :: _, 0 => e
  | _ :: r, i + 1 => pmNth r i
def pmCode (M : pmM) (pc : Nat) : Option (Instr × Nat × Nat × Int32) := pmFind (pmNth M.1 (pc / 32)) pc
theorem pmFind_mem : ∀ {l : List pmE} {pc : Nat} {q : Instr × Nat × Nat × Int32}, pmFind l pc = some q → (pc, q) ∈ l
  | [], _, _, h => by cases h
  | e :: r, pc, q, h => by
    unfold pmFind at h
    split at h
    · rename_i hq
      cases h
      have e1 : e.1 = pc := Nat.eq_of_beq_eq_true hq
      rw [← e1]
      exact List.mem_cons_self
    · exact List.mem_cons_of_mem _ (pmFind_mem h)
theorem pmNth_mem : ∀ {l : List (List pmE)} {i : Nat} {q : pmE}, q ∈ pmNth l i → ∃ c ∈ l, q ∈ c
  | [], _, _, h => by cases h
  | e :: _, 0, _, h => ⟨e, List.mem_cons_self, h⟩
  | _ :: r, i + 1, _, h => by
    obtain ⟨c, h1, h2⟩ := pmNth_mem (l := r) (i := i) h
    exact ⟨c, List.mem_cons_of_mem _ h1, h2⟩
theorem pmCode_mem {M : pmM} {pc : Nat} {q : Instr × Nat × Nat × Int32} (h : pmCode M pc = some q) : ∃ c ∈ M.1, (pc, q) ∈ c := pmNth_mem (pmFind_mem h)
abbrev pmO : Type := Option Value ⊕ Nat
/-- arguments as locals -/
def pmEnt : List Value → pmL
  | [] => []
  | v :: r => match pmIs2 (some v) with
    | true => some v :: none :: pmEnt r
    | false => some v :: pmEnt r
def pmPad : Nat → pmL → pmL
  | 0, l => l
  | n + 1, [] => none :: pmPad n []
  | n + 1, o :: r => o :: pmPad n r
def pmSum : List Value → Nat
  | [] => 0
  | v :: r => v.category + pmSum r
def pmHand : List (Nat × Nat × Nat × Nat) → Nat → Nat → Option Nat
  | [], _, _ => none
  | q :: r, pc, x => if q.1 ≤ pc ∧ pc < q.2.1 ∧ q.2.2.2 = x then some q.2.2.1 else pmHand r pc x
def pmBmp (w : pmW) : pmW := (w.1, w.2.1 + 1, w.2.2.1 + 6, w.2.2.2)
/-- what the receiver of a virtual call is -/
def pmRc (w : pmW) (k : Nat) (st : List Value) (y : Nat) : Bool := match st.drop (y - 1) with
  | .ref a :: _ => (match pmh w a with
    | .inr c => Nat.beq c k && (Nat.ble 1 a && Nat.ble a (pmn w))
    | .inl _ => false)
  | _ => false
def pmRf1 (st : List Value) (y : Nat) : Bool := match st.drop (y - 1) with
  | .ref _ :: _ => true
  | _ => false
def pmX (ty : Nat → Nat → FieldType) (nf : Nat → Nat) (G : Nat → Option pmM) : Nat → Nat → Nat → pmL → List Value → pmW → Option (pmO × pmW)
  | 0, _, _, _, _, _ => none
  | n + 1, mid, pc, l, st, w => match G mid with
    | none => none
    | some M => match pmCode M pc with
      | none => none
      | some (i, x, y, k) => match i with
        | .ireturn => (match st with
          | [.int v] => if y = 0 ∨ v = 0 ∨ v = 1 then some (.inl (some (.int v)), w) else none
          | _ => none)
        | .lreturn => (match st with
          | [.long v] => some (.inl (some (.long v)), w)
          | _ => none)
        | .areturn => (match st with
          | [.ref v] => some (.inl (some (.ref v)), w)
          | _ => none)
        | .return_ => (match st with
          | [] => some (.inl none, w)
          | _ => none)
        | .athrow => (match M.2.2.1 with
          | [] => if pmSum st ≤ 8 then some (.inr x, pmBmp w) else none
          | _ :: _ => none)
        | .nop => (match st with
          | .ref _ :: r => if pmSum r ≤ 8 then pmX ty nf G n mid (pc + 3) l r w else none
          | _ => none)
        | .swap => (match st with
          | .int b :: .int a :: r => if pmSum r ≤ 8 then pmX ty nf G n mid (pc + 3) l (.int (if a < b then b else a) :: r) w else none
          | _ => none)
        | .dup_x1 => (match st with
          | .int b :: .int a :: r => if pmSum r ≤ 8 then pmX ty nf G n mid (pc + 3) l (.int (if b < a then b else a) :: r) w else none
          | _ => none)
        | .dup_x2 => (match st with
          | .long b :: .long a :: r => if pmSum r ≤ 8 then pmX ty nf G n mid (pc + 3) l (.long (if b < a then a else b) :: r) w else none
          | _ => none)
        | .dup2_x1 => (match st with
          | .long b :: .long a :: r => if pmSum r ≤ 8 then pmX ty nf G n mid (pc + 3) l (.long (if b < a then b else a) :: r) w else none
          | _ => none)
        | .invokevirtual _ => (match G x with
          | none => none
          | some M2 => if y ≤ st.length ∧ 1 ≤ y ∧ pmSum (st.drop y) ≤ 8 ∧ pmRc w M2.2.2.2 st y = true ∧ (pmEnt (st.take y).reverse).length ≤ M2.2.1 then (match pmX ty nf G n x 0 (pmPad M2.2.1 (pmEnt (st.take y).reverse)) [] w with
            | none => none
            | some (.inl v, w1) => pmX ty nf G n mid (pc + 3) l (v.toList ++ st.drop y) w1
            | some (.inr ex, w1) => (match M.2.2.1 with
              | [] => some (.inr ex, w1)
              | _ :: _ => (match pmHand M.2.2.1 pc ex with
                | none => none
                | some h => (match pmCode M h with
                  | some (.astore_n _, z, _, _) => pmX ty nf G n mid (h + 1) (pmDel z (pmSet (.int 0) z l)) [] w1
                  | some (.astore _, z, _, _) => pmX ty nf G n mid (h + 2) (pmDel z (pmSet (.int 0) z l)) [] w1
                  | _ => none)))) else none)
        | .invokestatic _ => (match G x with
          | none => none
          | some M2 => if y ≤ st.length ∧ pmSum (st.drop y) ≤ 8 ∧ (pmEnt (st.take y).reverse).length ≤ M2.2.1 then (match pmX ty nf G n x 0 (pmPad M2.2.1 (pmEnt (st.take y).reverse)) [] w with
            | some (.inl v, w1) => pmX ty nf G n mid (pc + 3) l (v.toList ++ st.drop y) w1
            | _ => none) else none)
        | .invokespecial _ => (match G x with
          | none => none
          | some M2 => if y ≤ st.length ∧ 1 ≤ y ∧ pmSum (st.drop y) ≤ 8 ∧ pmRf1 st y = true ∧ (pmEnt (st.take y).reverse).length ≤ M2.2.1 then (match pmX ty nf G n x 0 (pmPad M2.2.1 (pmEnt (st.take y).reverse)) [] w with
            | some (.inl v, w1) => pmX ty nf G n mid (pc + 3) l (v.toList ++ st.drop y) w1
            | _ => none) else none)
        | i => (match pmA i x k pc l st with
          | some (pc1, l1, st1) => pmX ty nf G n mid pc1 l1 st1 w
          | none => (match pmB ty nf i x y pc l st w with
            | some (pc1, l1, st1, w1) => pmX ty nf G n mid pc1 l1 st1 w1
            | none => none))
/-- references within the world -/
def pmOkS (n : Nat) (l : pmL) (st : List Value) : Prop := (∀ i a, pmGet l i = some (.ref a) → a ≤ n) ∧ ∀ a, Value.ref a ∈ st → a ≤ n
theorem pmOkS.mono {n n1 : Nat} {l : pmL} {st : List Value} (h : pmOkS n l st) (hn : n ≤ n1) : pmOkS n1 l st := ⟨fun i a q => Nat.le_trans (h.1 i a q) hn, fun a q => Nat.le_trans (h.2 a q) hn⟩
theorem pmOkS_set {n i : Nat} {l : pmL} {st : List Value} {v : Value} (h : pmOkS n l (v :: st)) : pmOkS n (pmSet v i l) st := by
  refine ⟨fun j a q => ?_, fun a q => h.2 a (List.mem_cons_of_mem _ q)⟩
  rcases pmSet_get v _ i j l q with ⟨-, e⟩ | ⟨-, e, -⟩
  · exact h.2 a (by rw [e]; exact List.mem_cons_self)
  · exact h.1 j a e
theorem pmOkS_set2 {n i : Nat} {l : pmL} {st : List Value} {v : Value} (h : pmOkS n l (v :: st)) : pmOkS n (pmSet2 v i l) st := by
  refine ⟨fun j a q => ?_, fun a q => h.2 a (List.mem_cons_of_mem _ q)⟩
  rcases pmSet2_get v _ i j l q with ⟨-, e⟩ | ⟨-, -, e, -⟩
  · exact h.2 a (by rw [e]; exact List.mem_cons_self)
  · exact h.1 j a e
theorem pmOkS_seti {n i : Nat} {l : pmL} {st : List Value} {v : Int32} (h : pmOkS n l st) : pmOkS n (pmSet (.int v) i l) st := by
  refine ⟨fun j a q => ?_, h.2⟩
  rcases pmSet_get _ _ i j l q with ⟨-, e⟩ | ⟨-, e, -⟩
  · cases e
  · exact h.1 j a e
theorem pmOkS_sub {n : Nat} {l : pmL} {st st1 : List Value} (h : pmOkS n l st) (hs : ∀ a, Value.ref a ∈ st1 → Value.ref a ∈ st) : pmOkS n l st1 := ⟨h.1, fun a q => h.2 a (hs a q)⟩
theorem pmOkS_ld {n i a : Nat} {l : pmL} {st : List Value} (h : pmOkS n l st) (hg : pmGet l i = some (.ref a)) : pmOkS n l (.ref a :: st) := ⟨h.1, fun b q => by
  rcases List.mem_cons.mp q with e | e
  · cases e; exact h.1 i _ hg
  · exact h.2 b e⟩
set_option maxHeartbeats 4000000 in
theorem pmA_keep {i : Instr} {x pc pc1 n : Nat} {k : Int32} {l l1 : pmL} {st st1 : List Value} (h : pmA i x k pc l st = some (pc1, l1, st1)) : l1.length = l.length ∧ (pmOkS n l st → pmOkS n l1 st1) := by
  unfold pmA at h
  split at h <;> (try split at h) <;> (try split at h) <;> (try split at h) <;> first
    | (cases h; done)
    | (rename_i hg; cases h; exact ⟨rfl, fun q => pmOkS_ld q hg⟩)
    | (cases h; exact ⟨pmSet_len _ _ _, fun q => pmOkS_set q⟩)
    | (cases h; exact ⟨pmSet2_len _ _ _, fun q => pmOkS_set2 q⟩)
    | (cases h; exact ⟨pmSet_len _ _ _, fun q => pmOkS_seti q⟩)
    | (cases h; refine ⟨rfl, fun q => pmOkS_sub q ?_⟩; intro a hh; exact hh)
    | (cases h; refine ⟨rfl, fun q => pmOkS_sub q ?_⟩; intro a hh; simp at hh; done)
    | (cases h; refine ⟨rfl, fun q => pmOkS_sub q ?_⟩; intro a hh; simp at hh ⊢; exact hh)
theorem pmBmp_h (w : pmW) : pmh (pmBmp w) = pmh w ∧ pmr (pmBmp w) = pmr w ∧ pmi (pmBmp w) = pmi w ∧ pmj (pmBmp w) = pmj w ∧ pmn (pmBmp w) = pmn w := ⟨rfl, rfl, rfl, rfl, rfl⟩
set_option maxHeartbeats 4000000 in
theorem pmB_keep {ty : Nat → Nat → FieldType} {nf : Nat → Nat} {i : Instr} {x y pc pc1 : Nat} {l l1 : pmL} {st st1 : List Value} {w w1 : pmW} (h : pmB ty nf i x y pc l st w = some (pc1, l1, st1, w1)) :
    l1 = l ∧ (pmn w ≤ pmn w1 ∧ pmnc w ≤ pmnc w1 ∧ pmns w ≤ pmns w1) ∧ ((∀ a k b, pmr w a k = some b → b ≤ pmn w) → pmOkS (pmn w) l st → pmOkS (pmn w1) l1 st1) := by
  have new : ∀ (hd : (FieldType × Nat) ⊕ Nat) (m : Nat), pmn w ≤ pmn (pmNew w hd m) ∧ pmnc w ≤ pmnc (pmNew w hd m) ∧ pmns w ≤ pmns (pmNew w hd m) := fun hd m => ⟨Nat.le_succ _, Nat.le_succ _, Nat.le_add_right _ _⟩
  have newS : ∀ (hd : (FieldType × Nat) ⊕ Nat) (m : Nat) (r : List Value), pmOkS (pmn w) l r → pmOkS (pmn (pmNew w hd m)) l (.ref (w.1 + 1) :: r) := fun hd m r q => ⟨fun i a z => Nat.le_succ_of_le (q.1 i a z), fun a z => by
    rcases List.mem_cons.mp z with e | e
    · cases e; exact Nat.le_refl _
    · exact Nat.le_succ_of_le (q.2 a e)⟩
  unfold pmB at h
  split at h
  · split at h
    · split at h
      · split at h
        · cases h
          refine ⟨rfl, ⟨Nat.le_refl _, Nat.le_refl _, Nat.le_refl _⟩, fun hw q => ⟨q.1, fun a z => ?_⟩⟩
          rcases List.mem_cons.mp z with e | e
          · exact pmRd_ref hw e.symm
          · exact q.2 a (List.mem_cons_of_mem _ e)
        · cases h
      · cases h
    · cases h
  · split at h
    · split at h
      · split at h
        · split at h
          · rename_i hwr
            cases h
            obtain ⟨⟨g1, g1b, g1c, -⟩, -⟩ := pmWr_spec hwr
            exact ⟨rfl, ⟨Nat.le_of_eq g1.symm, Nat.le_of_eq g1b.symm, Nat.le_of_eq g1c.symm⟩, fun hw q => by rw [g1]; exact pmOkS_sub q (fun a z => List.mem_cons_of_mem _ (List.mem_cons_of_mem _ z))⟩
          · cases h
        · cases h
      · cases h
    · cases h
  all_goals first
    | (cases h; done)
    | (cases h; exact ⟨rfl, new _ _, fun _ q => newS _ _ _ q⟩)
    | (split at h
       · split at h
         · cases h
         · cases h
           refine ⟨rfl, new _ _, fun _ q => newS _ _ _ (pmOkS_sub q ?_)⟩
           intro a hh
           exact List.mem_cons_of_mem _ hh
       · cases h)
    | (split at h
       · split at h
         · split at h
           · cases h
             refine ⟨rfl, ⟨Nat.le_refl _, Nat.le_refl _, Nat.le_refl _⟩, fun _ q => pmOkS_sub q ?_⟩
             intro a hh
             simp at hh ⊢
             first | exact hh | exact Or.inr hh
           · cases h
         · cases h
       · cases h)
    | (split at h
       · split at h
         · split at h
           · split at h
             · cases h
             · cases h
               refine ⟨rfl, ⟨Nat.le_refl _, Nat.le_refl _, Nat.le_refl _⟩, fun _ q => pmOkS_sub q ?_⟩
               intro a hh
               simp at hh ⊢
               first | exact hh | exact Or.inr hh
           · cases h
         · cases h
       · cases h)
end
section
/-! ===== THE PURE MACHINE (5): the program, what it must keep to, its contracts ===== -/
/-- classes; field types; methods; names; bytes; answers; words; room: frames, locals; handlers' rows; exceptions; words of the tables that aren't good ones; texts; classes that aren't castable -/
abbrev pmD : Type := List vw_C × (Nat → Nat → FieldType) × (Nat → Option pmM) × (Nat → MethodName) × (Nat → ByteArray) × (Nat → Option FieldType) × (Nat → List Cond) × (Nat → Nat) × (Nat → Nat) × (Nat → List (Nat × Nat × Nat × Nat)) × (Nat → String) × List Cond × List (String × Nat × String) × List (String × String) × (Cond → Bool)
abbrev dcl (D : pmD) : List vw_C := D.1
abbrev dty (D : pmD) : Nat → Nat → FieldType := D.2.1
abbrev dG (D : pmD) : Nat → Option pmM := D.2.2.1
abbrev dyy (D : pmD) : Nat → MethodName := D.2.2.2.1
abbrev dbc (D : pmD) : Nat → ByteArray := D.2.2.2.2.1
abbrev drt (D : pmD) : Nat → Option FieldType := D.2.2.2.2.2.1
abbrev dws (D : pmD) : Nat → List Cond := D.2.2.2.2.2.2.1
abbrev drf (D : pmD) : Nat → Nat := D.2.2.2.2.2.2.2.1
abbrev drl (D : pmD) : Nat → Nat := D.2.2.2.2.2.2.2.2.1
abbrev dhs (D : pmD) : Nat → List (Nat × Nat × Nat × Nat) := D.2.2.2.2.2.2.2.2.2.1
abbrev dex (D : pmD) : Nat → String := D.2.2.2.2.2.2.2.2.2.2.1
abbrev dEW (D : pmD) : List Cond := D.2.2.2.2.2.2.2.2.2.2.2.1
abbrev dSR (D : pmD) : List (String × Nat × String) := D.2.2.2.2.2.2.2.2.2.2.2.2.1
abbrev dNC (D : pmD) : List (String × String) := D.2.2.2.2.2.2.2.2.2.2.2.2.2.1
abbrev dmb (D : pmD) : Cond → Bool := D.2.2.2.2.2.2.2.2.2.2.2.2.2.2
abbrev pmRun (D : pmD) : Nat → Nat → Nat → pmL → List Value → pmW → Option (pmO × pmW) := pmX (dty D) (pmN (dcl D)) (dG D)
def pmEwOk : Cond → Bool
  | .methodLinkNest .. => true
  | .castable .. => true
  | .declares _ => true
  | _ => false
theorem pmEw_warm {w : Cond} (hk : pmEwOk w = true) {s U : State} (hW : s.WarmedH U.vm) (h : w.before #[] s = true) : w.before #[] U = true := by
  cases w <;> first
    | (cases hk; done)
    | exact va_Nw.warmM hW h
    | exact va_Nw.warmC hW h
    | exact va_Nw.warmD hW h
theorem pmEw_tabs {w : Cond} (hk : pmEwOk w = true) {u U : State} {a1 a2 : Array Value} (hv : u.vm = U.vm) (h : w.before a1 u = true) : w.before a2 U = true := by
  cases w <;> first
    | (cases hk; done)
    | exact va_tabs rfl hv h
/-- what a throw needs of the start, kept along -/
def pmG (D : pmD) (A : Nat → Prop) (U : State) : Prop :=
  vx_Zq Bundle.tN "UNASSIGNED_STACK" Bundle.steD A U U.heap ∧ vx_Zq Bundle.tN "SUPPRESSED_SENTINEL" Bundle.listD A U U.heap ∧ (∀ w ∈ dEW D, pmEwOk w = true ∧ w.before #[] U = true) ∧ (∀ q ∈ dSR D, ∃ sa, vk_R q.1 q.2.1 q.2.2 sa U) ∧ ∀ q ∈ dNC D, va_Nc q.1 q.2 U
theorem pmG.next {D : pmD} {A A1 : Nat → Prop} {s U : State} {H : Heap} {locs : List Loc} (h : pmG D A s) (hW : s.WarmedH U.vm) (hH : U.heap = H) (hS : va_S A s.heap H locs) (hA : ∀ q, A1 q → A q) : pmG D A1 U := by
  obtain ⟨h1, h2, h3, h4, h5⟩ := h
  subst hH
  exact ⟨((h1.moved hW.alike).kept hS.2.1).narrow hA, ((h2.moved hW.alike).kept hS.2.1).narrow hA, fun w hw => ⟨(h3 w hw).1, pmEw_warm (h3 w hw).1 hW (h3 w hw).2⟩, fun q hq => (h4 q hq).elim fun sa z => ⟨sa, z.warm hW⟩, fun q hq => (h5 q hq).moved hW.alike⟩
theorem pmG.calling {D : pmD} {A : Nat → Prop} {U : State} (h : pmG D A U) (g : JFrame) (mk : MethodId) (a : Array Value) : pmG D A (U.calling g mk a) := by
  obtain ⟨h1, h2, h3, h4, h5⟩ := h
  have hv : (U.calling g mk a).vm = U.vm := rfl
  have ha : U.vm.Alike (U.calling g mk a).vm := Vm.Alike.refl U.vm
  exact ⟨h1.moved ha, h2.moved ha, fun w hw => ⟨(h3 w hw).1, pmEw_tabs (h3 w hw).1 hv.symm (h3 w hw).2⟩, fun q hq => (h4 q hq).elim fun sa z => ⟨sa, z.same hv⟩, fun q hq => (h5 q hq).moved ha⟩
abbrev pmTys (cI cZ cJ : ClassId) : List (ClassId × FieldType) := [(cI, .int), (cZ, .boolean), (cJ, .long)]
/-- the start of a method, with the pure world w at φ, the arguments vs -/
def pmPc (D : pmD) (dC : Nat → ClassId) (dI : Nat → Nat → Nat) (cI cZ cJ : ClassId) (L : Nat) (φ : Nat → Nat) (w : pmW) (vs : List Value) (sz : Nat) : Array Value → State → Prop :=
  va_Pc (vs.map (pmV φ)) (fun U => U.heap.size = sz ∧ va_P (dC, dI) (dcl D) (pmWd (dcl D) (dty D) cI cZ cJ φ w) U.heap ∧ va_K (dC, dI) (dcl D) (pmTys cI cZ cJ) U ∧ va_D (fun _ => True) (pmWd (dcl D) (dty D) cI cZ cJ φ w) ∧
    va_X (φ 0) L (pmi w 0) U U.heap ∧ φ 0 < U.heap.size ∧ ¬ va_A (pmWd (dcl D) (dty D) cI cZ cJ φ w) sz (φ 0) ∧ pmG D (va_A (pmWd (dcl D) (dty D) cI cZ cJ φ w) sz) U)
/-- the world behind it -/
def pmPw (D : pmD) (dC : Nat → ClassId) (dI : Nat → Nat → Nat) (cI cZ cJ : ClassId) (φ : Nat → Nat) (w w1 : pmW) (sz : Nat) (st t : State) (φ1 : Nat → Nat) : Prop :=
  va_P (dC, dI) (dcl D) (pmWd (dcl D) (dty D) cI cZ cJ φ1 w1) t.heap ∧ va_D (va_A (pmWd (dcl D) (dty D) cI cZ cJ φ w) sz) (pmWd (dcl D) (dty D) cI cZ cJ φ1 w1) ∧ (∀ a, a ≤ pmn w → φ1 a = φ a) ∧ (∀ a k b, pmr w1 a k = some b → b ≤ pmn w1) ∧ pmh w1 0 = pmh w 0 ∧ pmi w1 0 = pmi w 0 ∧
    va_F (va_A (pmWd (dcl D) (dty D) cI cZ cJ φ w) sz) st t
def pmQc (D : pmD) (dC : Nat → ClassId) (dI : Nat → Nat → Nat) (cI cZ cJ : ClassId) (φ : Nat → Nat) (w w1 : pmW) (sz : Nat) (out : pmO) : Array Value → State → Outcome → State → Prop := fun _ st o t =>
  ∃ (v : Option Value) (φ1 : Nat → Nat), out = .inl v ∧ o = .returned (v.map (pmV φ1)) ∧ (∀ a, v = some (.ref a) → a ≤ pmn w1) ∧ pmPw D dC dI cI cZ cJ φ w w1 sz st t φ1
def pmXc (D : pmD) (dC : Nat → ClassId) (dI : Nat → Nat → Nat) (cI cZ cJ : ClassId) (φ : Nat → Nat) (w w1 : pmW) (sz : Nat) (out : pmO) : String → State → State → Prop := fun E st t =>
  ∃ (x : Nat) (φ1 : Nat → Nat), out = .inr x ∧ E = dex D x ∧ pmPw D dC dI cI cZ cJ φ w w1 sz st t φ1
abbrev pmRm (D : pmD) (mid : Nat) (w w1 : pmW) : Room := { frames := drf D mid, cells := pmnc w1 - pmnc w, slots := pmns w1 - pmns w, locals := drl D mid }
/-- a method's word on its own code -/
def pmHd (D : pmD) (mid : Nat) (M : pmM) : Prop := (M.2.2.1 = [] ∧ ∃ ws', dws D mid = .code (dyy D mid) (dbc D mid) M.2.1 (drt D mid) :: ws') ∨ (M.2.2.1 ≠ [] ∧ ∃ ws', dws D mid = .codeWith (dyy D mid) (dbc D mid) M.2.1 (drt D mid) (dhs D mid) :: ws')
def pmSig (y : MethodName) (n : Nat) : Prop := y.cls ≠ "java/lang/invoke/MethodHandle" ∧ y.cls ≠ "java/lang/invoke/VarHandle" ∧ (parseMethodDescriptor y.desc).map (fun d => d.parameters.length) = some n
def pmFit (D : pmD) (mid x : Nat) (M2 : pmM) : Prop := drf D x + 1 ≤ drf D mid ∧ 8 + (M2.2.1 + 11) + drl D x ≤ drl D mid ∧ plainName (dyy D x).cls = true ∧ pmHd D x M2
def pmCV (D : pmD) (mid x : Nat) (M2 : pmM) (idx y : Nat) : Prop := M2.2.2.1 = [] ∧ GoodIn (dws D mid) (wsV (dyy D mid).cls idx (dyy D x).cls (dyy D x) (dws D x)) ∧ pmSig (dyy D x) (y - 1) ∧ pmFit D mid x M2 ∧ ∃ T N, (dcl D)[M2.2.2.2]? = some ((dyy D x).cls, T, N)
def pmCS (D : pmD) (mid x : Nat) (M2 : pmM) (idx y : Nat) : Prop := pmSig (dyy D x) y ∧ pmFit D mid x M2 ∧ (GoodIn (dws D mid) (va_wsS (dyy D mid).cls idx (dyy D x) (dws D x)) ∨
  (M2.2.2.1 = [] ∧ GoodIn (dws D mid) (dws D x) ∧ (∃ host, Cond.methodLinkNest (dyy D mid).cls idx (dyy D x) host ∈ dEW D) ∧ Cond.initialized (dyy D x).cls ∈ dws D mid ∧ Cond.static (dyy D x) ∈ dws D mid))
def pmCI (D : pmD) (mid x : Nat) (M2 : pmM) (idx y : Nat) : Prop := M2.2.2.1 = [] ∧ drt D x = none ∧ (dyy D x).name = "<init>" ∧ pmSig (dyy D x) (y - 1) ∧ pmFit D mid x M2 ∧ GoodIn (dws D mid) (dws D x) ∧ Cond.initialized (dyy D x).cls ∈ dws D mid ∧ Cond.instanceMethod (dyy D x) ∈ dws D mid ∧
  (Cond.methodLink (dyy D mid).cls idx (dyy D x) ∈ dws D mid ∨ ∃ host, Cond.methodLinkNest (dyy D mid).cls idx (dyy D x) host ∈ dEW D)
abbrev pmNm : List String := ["java/lang/RuntimeException", "java/lang/Exception"]
/-- 'throw new E("text")' at pc -/
def pmTh (D : pmD) (mid pc x : Nat) : Prop := ∃ (ik is ic : Nat) (text : String), Bundle.fit (dex D x) = true ∧ Cond.classLink (dyy D mid).cls ik (dex D x) ∈ dws D mid ∧ Cond.initialized (dex D x) ∈ dws D mid ∧ ((dyy D mid).cls, is, text) ∈ dSR D ∧
  (∀ w ∈ (vx_atS (dyy D mid).cls ic (dex D x) pmNm).filter goodWord, w ∈ dws D mid) ∧ (∀ w ∈ (vx_atS (dyy D mid).cls ic (dex D x) pmNm).filter (fun w => !goodWord w), w ∈ dEW D) ∧ (∀ w ∈ Cond.classLink (dyy D mid).cls ik (dex D x) :: Cond.initialized (dex D x) :: vx_atS (dyy D mid).cls ic (dex D x) pmNm, vx_ot w = true) ∧
  decode (dbc D mid) pc = .ok (.new ik, 3) ∧ decode (dbc D mid) (pc + 3) = .ok (.dup, 1) ∧ decode (dbc D mid) (pc + 4) = .ok (.ldc is, 2) ∧ decode (dbc D mid) (pc + 6) = .ok (.invokespecial ic, 3) ∧ decode (dbc D mid) (pc + 9) = .ok (.athrow, 1) ∧ 5 < drf D mid ∧ 90 ≤ drl D mid
def pmKA : Instr → Bool
  | .getfield _ => false
  | .putfield _ => false
  | .iaload => false
  | .baload => false
  | .laload => false
  | .iastore => false
  | .bastore => false
  | .lastore => false
  | .arraylength => false
  | .newarray _ => false
  | .new _ => false
  | _ => true
theorem pmKA_A {i : Instr} {x pc : Nat} {k : Int32} {l : pmL} {st : List Value} {r : Nat × pmL × List Value} (h : pmA i x k pc l st = some r) : pmKA i = true := by
  unfold pmA at h
  split at h <;> first | rfl | cases h
theorem pmKA_B {ty : Nat → Nat → FieldType} {nf : Nat → Nat} {i : Instr} {x y pc : Nat} {l : pmL} {st : List Value} {w : pmW} {r : Nat × pmL × List Value × pmW} (h : pmB ty nf i x y pc l st w = some r) : pmKA i = false := by
  unfold pmB at h
  split at h <;> first | rfl | cases h
/-- a call of Math's own -/
def pmMth (D : pmD) (mid pc : Nat) (y : MethodName) (cc : ByteArray) (n : Nat) (t : FieldType) : Prop := ∃ idx, decode (dbc D mid) pc = .ok (.invokestatic idx, 3) ∧ Cond.methodLink (dyy D mid).cls idx y ∈ dws D mid ∧ Cond.static y ∈ dws D mid ∧ Cond.initialized "java/lang/Math" ∈ dws D mid ∧ Cond.code y cc n (some t) ∈ dws D mid ∧ 1 ≤ drf D mid ∧ 23 ≤ drl D mid
/-- a row of a method's pure code keeps to the bytes and the words -/
def pmEOk (D : pmD) (mid : Nat) (M : pmM) (pc : Nat) (q : Instr × Nat × Nat × Int32) : Prop := match q.1 with
  | .ireturn => decode (dbc D mid) pc = .ok (.ireturn, 1) ∧ ((drt D mid = some .int) ∨ (drt D mid = some .boolean ∧ q.2.2.1 = 1))
  | .lreturn => decode (dbc D mid) pc = .ok (.lreturn, 1) ∧ drt D mid = some .long
  | .areturn => decode (dbc D mid) pc = .ok (.areturn, 1) ∧ ∃ t, drt D mid = some (.array t)
  | .return_ => decode (dbc D mid) pc = .ok (.return_, 1) ∧ drt D mid = none
  | .athrow => pmTh D mid pc q.2.1
  | .nop => ∃ idx, decode (dbc D mid) pc = .ok (.invokespecial idx, 3) ∧ Cond.methodLink (dyy D mid).cls idx Lib.objectInit ∈ dws D mid ∧ Cond.instanceMethod Lib.objectInit ∈ dws D mid ∧ Cond.code Lib.objectInit ⟨#[0xb1]⟩ 1 none ∈ dws D mid ∧ 1 ≤ drf D mid ∧ 20 ≤ drl D mid
  | .swap => pmMth D mid pc Lib.Math.max.name Lib.Math.max.code 2 .int
  | .dup_x1 => pmMth D mid pc Lib.Math.min.name Lib.Math.min.code 2 .int
  | .dup_x2 => pmMth D mid pc Lib.MathLoose.max_long.x Lib.MathLoose.max_long.code 4 .long
  | .dup2_x1 => pmMth D mid pc Lib.MathLoose.min_long.x Lib.MathLoose.min_long.code 4 .long
  | .invokevirtual idx => decode (dbc D mid) pc = .ok (.invokevirtual idx, 3) ∧ ∀ M2, dG D q.2.1 = some M2 → pmCV D mid q.2.1 M2 idx q.2.2.1
  | .invokestatic idx => decode (dbc D mid) pc = .ok (.invokestatic idx, 3) ∧ ∀ M2, dG D q.2.1 = some M2 → pmCS D mid q.2.1 M2 idx q.2.2.1
  | .invokespecial idx => decode (dbc D mid) pc = .ok (.invokespecial idx, 3) ∧ ∀ M2, dG D q.2.1 = some M2 → pmCI D mid q.2.1 M2 idx q.2.2.1
  | i => (match pmKA i with
    | true => pmOkA (dyy D mid).cls (dmb D) (dbc D mid) M.2.1 pc i q.2.1 q.2.2.2
    | false => pmOkB (dcl D) (dyy D mid).cls (decide ((dyy D mid).name = "<init>")) (dmb D) (dbc D mid) pc i q.2.1 q.2.2.1) = true
/-- the handlers: pure rows beside the bytes' own -/
def pmHOk (D : pmD) (mid : Nat) (M : pmM) : Prop := ∀ pc x h, pmHand M.2.2.1 pc x = some h → ∃ (pre : List ExceptionTableEntry) (z : ExceptionTableEntry) (suf : List ExceptionTableEntry), tableOf (dhs D mid) = pre ++ z :: suf ∧ (∀ u ∈ pre, covers u pc = false ∨ (u.catchType ≠ 0 ∧ ∃ nm : String, Cond.classLink (dyy D mid).cls u.catchType nm ∈ dws D mid ∧ (dex D x, nm) ∈ dNC D)) ∧ covers z pc = true ∧ z.catchType ≠ 0 ∧ Cond.classLink (dyy D mid).cls z.catchType (dex D x) ∈ dws D mid ∧ Cond.castable (dex D x) (dex D x) ∈ dEW D ∧ z.handlerPc = h
def pmMOk (D : pmD) (mid : Nat) (M : pmM) : Prop := (∀ w, dmb D w = true → w ∈ dws D mid) ∧ (∀ (ci : Nat) (q : vw_C), (dcl D)[ci]? = some q → ∀ w ∈ u_ws q.1 q.2.1 q.2.2, w ∈ dws D mid) ∧ pmHOk D mid M ∧ ∀ pc q, pmCode M pc = some q → pmEOk D mid M pc q
def pmDOk (D : pmD) : Prop := pmClOk (dcl D) (dty D) ∧ ∀ mid M, dG D mid = some M → pmMOk D mid M
end
section
/-! ===== THE PURE MACHINE (6): it is sound ===== -/
def pmCtx (D : pmD) (mid : Nat) (M : pmM) (p : Program) (R : Room) (s : State) (m : MethodId) (args : Array Value) (meth : Method) (c : Code) : Prop :=
  p.tables.exec = Jvm.exec ∧ c.code = dbc D mid ∧ c.maxLocals = M.2.1 ∧ s.vm.findClass (dyy D mid).cls = some m.cls ∧ (∀ w ∈ dws D mid, w.before args s = true) ∧ ((dyy D mid).name = "<init>" → meth.name = "<init>") ∧ (M.2.2.1 ≠ [] → c.exceptionTable.toList = tableOf (dhs D mid)) ∧ R.frames = drf D mid ∧ R.locals = drl D mid
def pmRet (D : pmD) (mid pc : Nat) (v : Option Value) : Prop := (∃ z, v = some (.int z) ∧ decode (dbc D mid) pc = .ok (.ireturn, 1) ∧ (drt D mid = some .int ∨ (drt D mid = some .boolean ∧ (z = 0 ∨ z = 1)))) ∨ (∃ z, v = some (.long z) ∧ decode (dbc D mid) pc = .ok (.lreturn, 1) ∧ drt D mid = some .long) ∨
  (∃ a, v = some (.ref a) ∧ decode (dbc D mid) pc = .ok (.areturn, 1) ∧ ∃ t, drt D mid = some (.array t)) ∨ (v = none ∧ decode (dbc D mid) pc = .ok (.return_, 1) ∧ drt D mid = none)
section PMT
variable {D : pmD} {mid : Nat} {M : pmM} {p : Program} {l : Launch} {e : Env} {R : Room} {s : State} {m : MethodId} {args : Array Value} {below : List Frame} {meth : Method} {c : Code} {dC : Nat → ClassId} {dI : Nat → Nat → Nat} {cI cZ cJ : ClassId} {A : Nat → Prop} {b L : Nat} {xs : Nat → Int32} {Q : State → Prop} {out : pmO} {wF w w1 : pmW} {φ φ1 : Nat → Nat} {cells slots cells1 slots1 : Nat}
/-- what the body is followed by: a return, a throw of its own, a throw from below -/
def pmK (D : pmD) (mid : Nat) (M : pmM) (p : Program) (l : Launch) (e : Env) (R : Room) (s : State) (m : MethodId) (args : Array Value) (below : List Frame) (meth : Method) (c : Code) (dC : Nat → ClassId) (dI : Nat → Nat → Nat) (cI cZ cJ : ClassId) (A : Nat → Prop) (b L : Nat) (xs : Nat → Int32) (Q : State → Prop) (out : pmO) (wF : pmW) (w : pmW) (φ : Nat → Nat) (cells slots : Nat) : Prop :=
  (∀ (φ1 : Nat → Nat) (ls1 : Array Slot) (H1 : Heap) (locs1 : List Loc) (cells1 slots1 pc1 : Nat) (v : Option Value), out = .inl v → pmRet D mid pc1 v → (∀ a, v = some (.ref a) → a ≤ pmn wF) → (∀ a, a ≤ pmn w → φ1 a = φ a) → pmInv (dcl D) (dty D) dC dI cI cZ cJ A s b L xs φ1 wF H1 locs1 → cells1 + pmnc w = cells + pmnc wF → slots1 + pmns w = slots + pmns wF →
    W p l e R s m args below meth c H1 locs1 cells1 slots1 Q (F0 m pc1 ls1 ((v.map (pmV φ1)).toList))) ∧
  (∀ (φ1 : Nat → Nat) (ls1 : Array Slot) (H1 : Heap) (locs1 : List Loc) (cells1 slots1 pc1 x : Nat) (w1 : pmW) (st1 : List Value), out = .inr x → pmTh D mid pc1 x → M.2.2.1 = [] → wF = pmBmp w1 → ls1.size = M.2.1 → (st1.map fun v => v.category).sum ≤ 8 → (∀ a, a ≤ pmn w → φ1 a = φ a) → pmInv (dcl D) (dty D) dC dI cI cZ cJ A s b L xs φ1 w1 H1 locs1 → cells1 + pmnc w = cells + pmnc w1 → slots1 + pmns w = slots + pmns w1 →
    W p l e R s m args below meth c H1 locs1 cells1 slots1 Q (F0 m pc1 ls1 st1)) ∧
  (∀ (φ1 : Nat → Nat) (ls1 : Array Slot) (H1 : Heap) (locs1 : List Loc) (cells1 slots1 pc1 x : Nat) (q : Addr) (ce : Cell) (rest : List Value), out = .inr x → M.2.2.1 = [] → H1[q]? = some ce → ce.vm = .none → s.vm.findClass (dex D x) = some ce.cls → (∀ a, a ≤ pmn w → φ1 a = φ a) → pmInv (dcl D) (dty D) dC dI cI cZ cJ A s b L xs φ1 wF H1 locs1 → cells1 + pmnc w = cells + pmnc wF → slots1 + pmns w = slots + pmns wF →
    vx_W p l e R s m args below meth c H1 locs1 cells1 slots1 Q (F0 m pc1 ls1 rest) q)
theorem pmK.step (K : pmK D mid M p l e R s m args below meth c dC dI cI cZ cJ A b L xs Q out wF w φ cells slots) (hφ : ∀ a, a ≤ pmn w → φ1 a = φ a) (hn : pmn w ≤ pmn w1) (hc : cells1 + pmnc w = cells + pmnc w1) (hs : slots1 + pmns w = slots + pmns w1) :
    pmK D mid M p l e R s m args below meth c dC dI cI cZ cJ A b L xs Q out wF w1 φ1 cells1 slots1 := by
  obtain ⟨K1, K2, K3⟩ := K
  refine ⟨fun φ2 ls2 H2 locs2 c2 s2 pc2 v h1 h2 h3 h4 h5 h6 h7 => ?_, fun φ2 ls2 H2 locs2 c2 s2 pc2 x w2 st2 h1 h2 h3 h4 h5 h5b h6 h7 h8 h9 => ?_, fun φ2 ls2 H2 locs2 c2 s2 pc2 x q ce rest h1 h2 h3 h4 h5 h6 h7 h8 h9 => ?_⟩
  · exact K1 φ2 ls2 H2 locs2 c2 s2 pc2 v h1 h2 h3 (fun a ha => (h4 a (Nat.le_trans ha hn)).trans (hφ a ha)) h5 (by omega) (by omega)
  · exact K2 φ2 ls2 H2 locs2 c2 s2 pc2 x w2 st2 h1 h2 h3 h4 h5 h5b (fun a ha => (h6 a (Nat.le_trans ha hn)).trans (hφ a ha)) h7 (by omega) (by omega)
  · exact K3 φ2 ls2 H2 locs2 c2 s2 pc2 x q ce rest h1 h2 h3 h4 h5 (fun a ha => (h6 a (Nat.le_trans ha hn)).trans (hφ a ha)) h7 (by omega) (by omega)
end PMT
def pmBody (D : pmD) (l : Launch) (n : Nat) : Prop := ∀ (mid : Nat) (M : pmM), dG D mid = some M → ∀ (p : Program) (e : Env) (R : Room) (s : State) (m : MethodId) (args : Array Value) (below : List Frame) (meth : Method) (c : Code) (dC : Nat → ClassId) (dI : Nat → Nat → Nat) (cI cZ cJ : ClassId) (A : Nat → Prop) (b L : Nat) (xs : Nat → Int32),
  pmCtx D mid M p R s m args meth c → pmFix (dcl D) dC dI cI cZ cJ A s b L xs → pmG D A s → ∀ (Q : State → Prop) (pc : Nat) (lo : pmL) (st : List Value) (w : pmW) (out : pmO) (wF : pmW) (φ : Nat → Nat) (ls : Array Slot) (H : Heap) (locs : List Loc) (cells slots : Nat),
  pmRun D n mid pc lo st w = some (out, wF) → lo.length = M.2.1 → pmOkS (pmn w) lo st → lv_has ls M.2.1 (pmLv φ lo) → pmInv (dcl D) (dty D) dC dI cI cZ cJ A s b L xs φ w H locs → cells + pmnc wF ≤ R.cells + pmnc w → slots + pmns wF ≤ R.slots + pmns w →
  pmK D mid M p l e R s m args below meth c dC dI cI cZ cJ A b L xs Q out wF w φ cells slots → W p l e R s m args below meth c H locs cells slots Q (F0 m pc ls (st.map (pmV φ)))
def pmMet (D : pmD) (l : Launch) (n : Nat) : Prop := ∀ (mid : Nat) (M : pmM), dG D mid = some M → plainName (dyy D mid).cls = true → pmHd D mid M → ∀ (vs : List Value) (w : pmW) (out : pmO) (wF : pmW) (L : Nat), pmRun D n mid 0 (pmPad M.2.1 (pmEnt vs)) [] w = some (out, wF) → (pmEnt vs).length ≤ M.2.1 → (∀ a, Value.ref a ∈ vs → a ≤ pmn w) → (∀ a k b, pmr w a k = some b → b ≤ pmn w) → pmh w 0 = .inl (.int, L) →
  ∀ (dC : Nat → ClassId) (dI : Nat → Nat → Nat) (cI cZ cJ : ClassId) (φ : Nat → Nat) (sz : Nat), vx_Met l (dyy D mid) (dws D mid) (pmRm D mid w wF) (pmPc D dC dI cI cZ cJ L φ w vs sz) (pmQc D dC dI cI cZ cJ φ w wF sz out) (pmXc D dC dI cI cZ cJ φ w wF sz out) (pmnc wF - pmnc w) (pmns wF - pmns w) (va_A (pmWd (dcl D) (dty D) cI cZ cJ φ w) sz)
theorem pmPad_len : ∀ (n : Nat) (l : pmL), (pmPad n l).length = max n l.length
  | 0, l => by simp [pmPad]
  | n + 1, [] => by simp [pmPad, pmPad_len n []]
  | n + 1, o :: r => by simp [pmPad, pmPad_len n r, Nat.add_max_add_right]
theorem pmPad_get : ∀ (n : Nat) (l : pmL) (i : Nat) (v : Value), pmGet (pmPad n l) i = some v → pmGet l i = some v
  | 0, l, i, v, h => by simpa [pmPad] using h
  | n + 1, [], 0, v, h => by simp [pmPad, pmGet] at h
  | n + 1, [], i + 1, v, h => by
    have := pmPad_get n [] i v (by simpa [pmPad, pmGet] using h)
    simp [pmGet] at this
  | n + 1, o :: r, 0, v, h => by simpa [pmPad, pmGet] using h
  | n + 1, o :: r, i + 1, v, h => by
    have := pmPad_get n r i v (by simpa [pmPad, pmGet] using h)
    simpa [pmGet] using this
theorem pmEnt_get : ∀ (vs : List Value) (i k : Nat) (v : Value), pmGet (pmEnt vs) i = some v → (i + k, v) ∈ lv_args k vs
  | [], _, _, _, h => by simp [pmEnt, pmGet] at h
  | u :: r, i, k, v, h => by
    have hc : pmIs2 (some u) = (u.category == 2) := pmIs2_cat rfl
    unfold pmEnt at h
    rw [hc] at h
    unfold lv_args
    cases hu : (u.category == 2) with
    | true =>
      rw [hu] at h
      rw [if_pos (by simpa using hu)]
      match i, h with
      | 0, h => simp [pmGet] at h; subst h; simp
      | 1, h => simp [pmGet] at h
      | i + 2, h =>
        refine List.mem_cons_of_mem _ ?_
        have := pmEnt_get r i (k + 2) v (by simpa [pmGet] using h)
        rw [show i + 2 + k = i + (k + 2) by omega]
        exact this
    | false =>
      rw [hu] at h
      rw [if_neg (by simpa using hu)]
      match i, h with
      | 0, h => simp [pmGet] at h; subst h; simp
      | i + 1, h =>
        refine List.mem_cons_of_mem _ ?_
        have := pmEnt_get r i (k + 1) v (by simpa [pmGet] using h)
        rw [show i + 1 + k = i + (k + 1) by omega]
        exact this
theorem lv_args_map (φ : Nat → Nat) : ∀ (vs : List Value) (k : Nat), lv_args k (vs.map (pmV φ)) = (lv_args k vs).map (fun q => (q.1, pmV φ q.2))
  | [], _ => rfl
  | v :: r, k => by simp [lv_args, pmV_cat, lv_args_map φ r]
theorem lv_args_mem : ∀ (vs : List Value) (k : Nat) (q : Nat × Value), q ∈ lv_args k vs → q.2 ∈ vs
  | [], _, _, h => by simp [lv_args] at h
  | v :: r, k, q, h => by
    unfold lv_args at h
    rcases List.mem_cons.mp h with e | e
    · rw [e]; exact List.mem_cons_self
    · exact List.mem_cons_of_mem _ (lv_args_mem r _ q e)
theorem pmEnt_len (φ : Nat → Nat) : ∀ vs : List Value, (lg_sl (vs.map (pmV φ))).length = (pmEnt vs).length
  | [] => rfl
  | v :: r => by
    have ih := pmEnt_len φ r
    have hc : pmIs2 (some v) = (v.category == 2) := pmIs2_cat rfl
    unfold pmEnt
    rw [hc]
    cases v <;> simp_all [lg_sl, pmV, Value.category]
end
section
section PMU
variable {D : pmD} {l : Launch}
theorem pm_entry {φ : Nat → Nat} {vs : List Value} {n : Nat} (h : (pmEnt vs).length ≤ n) : lv_has ((lg_sl (vs.map (pmV φ)) ++ List.replicate (n - (lg_sl (vs.map (pmV φ))).length) Slot.unset).toArray) n (pmLv φ (pmPad n (pmEnt vs))) := by
  have hl := lv_entry (vs.map (pmV φ)) (n := n) (by rw [pmEnt_len]; exact h)
  refine ⟨hl.1, hl.2.1, fun q hq => hl.2.2 q ?_⟩
  obtain ⟨v, h1, h2⟩ := pmLv_mem.mp hq
  have h3 := pmEnt_get vs q.1 0 v (pmPad_get _ _ _ _ h1)
  rw [lv_args_map]
  refine List.mem_map.mpr ⟨_, h3, ?_⟩
  rw [← h2]
  rfl
theorem pm_P_kept {dC : Nat → ClassId} {dI : Nat → Nat → Nat} {cl : List vw_C} {ws : va_W} {H H1 : Heap} (h : va_P (dC, dI) cl ws H) (hq : ∀ q : Nat, q < H.size → H1[q]? = H[q]?) : va_P (dC, dI) cl ws H1 :=
  fun k q hk => (h k q hk).kept (hq _ (h k q hk).lt)
theorem pmWd_bmp {cl : List vw_C} {ty : Nat → Nat → FieldType} {cI cZ cJ : ClassId} {φ : Nat → Nat} {w : pmW} : pmWd cl ty cI cZ cJ φ (pmBmp w) = pmWd cl ty cI cZ cJ φ w := rfl
set_option maxHeartbeats 4000000 in
theorem pm_met_body (hst : l.stackTraces = false) {mid : Nat} {M : pmM} {w : pmW} {out : pmO} {wF : pmW} {L : Nat} {dC : Nat → ClassId} {dI : Nat → Nat → Nat} {cI cZ cJ : ClassId} {φ : Nat → Nat}
    {p : Program} {e : Env} {s : State} {m : MethodId} {args : Array Value} {below : List Frame} {meth : Method} {c : Code}
    (hx : p.tables.exec = Jvm.exec) (hb : c.code = dbc D mid) (hr : meth.sig.returnType = drt D mid) (hts : ∀ w ∈ dws D mid, w.before args s = true) (hown : s.vm.findClass (dyy D mid).cls = some m.cls) (hlocks : meth.locks = false) (hml : c.maxLocals = M.2.1)
    (htab : M.2.2.1 = [] → ∀ x ∈ c.exceptionTable.toList, False)
    (hwf : ∀ a k b, pmr w a k = some b → b ≤ pmn w) (hh0 : pmh w 0 = .inl (.int, L)) (hG0 : pmG D (va_A (pmWd (dcl D) (dty D) cI cZ cJ φ w) s.heap.size) s) :
    pmK D mid M p l e (pmRm D mid w wF) s m args below meth c dC dI cI cZ cJ (va_A (pmWd (dcl D) (dty D) cI cZ cJ φ w) s.heap.size) (φ 0) L (pmi w 0)
      (vx_MQ below (pmQc D dC dI cI cZ cJ φ w wF s.heap.size out) (pmXc D dC dI cI cZ cJ φ w wF s.heap.size out) args s (pmnc wF - pmnc w) (pmns wF - pmns w) (va_A (pmWd (dcl D) (dty D) cI cZ cJ φ w) s.heap.size)) out wF w φ 0 0 := by
  refine ⟨fun φ1 ls1 H1 locs1 c1 s1 pc1 v h1 h2 h3 h4 h5 h6 h7 => ?_, fun φ1 ls1 H1 locs1 c1 s1 pc1 x w1 st1 h1 h2 h3 h4 h5 h5b h6 h7 h8 h9 => ?_, fun φ1 ls1 H1 locs1 c1 s1 pc1 x q ce rest h1 h2 h3 h4 h5 h6 h7 h8 h9 => ?_⟩
  · refine vx_ret ?_
    obtain ⟨hP, hD, hS, hw, h0, hh, hi⟩ := h5
    have e1 : c1 = pmnc wF - pmnc w := by omega
    have e2 : s1 = pmns wF - pmns w := by omega
    subst e1; subst e2
    have hq : ∀ t : State, t.heap = H1 → s.WarmedH t.vm → pmQc D dC dI cI cZ cJ φ w wF s.heap.size out args s (.returned (v.map (pmV φ1))) t := fun t ht hW =>
      ⟨v, φ1, h1, rfl, h3, by rw [ht]; exact hP, hD, h4, hw, hh.trans hh0.symm, hi, hS.F ht⟩
    rcases h2 with ⟨z, rfl, d, r⟩ | ⟨z, rfl, d, r⟩ | ⟨z, rfl, d, t, r⟩ | ⟨rfl, d, r⟩
    · rcases r with r | ⟨r, r2⟩
      · exact W.iret (v := z) hx hb (hr.trans r) hq hS.2.2 d hlocks
      · refine W.zret (v := z) hx hb (hr.trans r) ?_ hq hS.2.2 d hlocks
        rcases r2 with rfl | rfl <;> decide
    · exact W.lret (v := z) hx hb (hr.trans r) hq hS.2.2 d hlocks
    · exact W.aret (v := .ref (φ1 z)) hx hb (hr.trans r) (Or.inr ⟨t, rfl⟩) (Or.inr ⟨_, rfl⟩) hq hS.2.2 d hlocks
    · exact W.vret hx hb (hr.trans r) hq hS.2.2 d hlocks
  · obtain ⟨hP, hD, hS, hw, h0, hh, hi⟩ := h7
    obtain ⟨ik, is, ic, text, t1, t2, t3, t4, t5, t6, t7, d0, d3, d4, d6, d9, r1, r2⟩ := h2
    obtain ⟨g1, g2, g3, g4, g5⟩ := hG0
    obtain ⟨sa, hsa⟩ := g4 _ t4
    subst h4
    have hcc : pmnc (pmBmp w1) = pmnc w1 + 1 := rfl
    have hss : pmns (pmBmp w1) = pmns w1 + 6 := rfl
    refine vx_throwS hx hb hst hown t1 (by decide) (hts _ t2) (hts _ t3) hsa (vx_hat (B := dEW D) (fun u hu => hts _ (t5 u hu)) t6 (fun u hu => pmEw_tabs (g3 u hu).1 rfl (g3 u hu).2)) t7 g1 g2 hS (h5.trans hml.symm) d0 d3 d4 d6 d9 (fun z hz => (htab h3 z hz).elim)
      (by show 2 + 3 < drf D mid; omega) (by show _ + (13 * (2 + 1) + 43) ≤ drl D mid; omega) (by show c1 + 1 ≤ pmnc (pmBmp w1) - pmnc w; omega) (by show s1 + 6 ≤ pmns (pmBmp w1) - pmns w; omega) hlocks (fun t ht hz hk => ?_) hS.2.2 (by omega) (by omega)
    refine ⟨x, φ1, h1, rfl, ?_, ?_, h6, hw, hh.trans hh0.symm, hi, ?_⟩
    · rw [pmWd_bmp]; exact pm_P_kept hP hk
    · rw [pmWd_bmp]; exact hD
    · exact ⟨Nat.le_trans hS.1 hz, fun q hq1 hq2 => (hk q (Nat.lt_of_lt_of_le hq1 hS.1)).trans (hS.2.1 q hq1 hq2)⟩
  · obtain ⟨hP, hD, hS, hw, h0, hh, hi⟩ := h7
    refine vx_out (fun z hz => (htab h2 z hz).elim) hlocks h3 h4 h5 (fun t ht hW => ⟨x, φ1, h1, rfl, by rw [ht]; exact hP, hD, h6, hw, hh.trans hh0.symm, hi, hS.F ht⟩) hS.2.2 (by omega) (by omega)
set_option maxHeartbeats 4000000 in
theorem pm_met_of (hst : l.stackTraces = false) {n : Nat} (hB : pmBody D l n) : pmMet D l n := by
  intro mid M hG hpl hhd vs w out wF L hrun hlen hvs hwf hh0 dC dI cI cZ cJ φ sz
  have okS : pmOkS (pmn w) (pmPad M.2.1 (pmEnt vs)) [] := by
    refine ⟨fun i a hg => hvs a ?_, fun a ha => by cases ha⟩
    exact lv_args_mem vs 0 _ (pmEnt_get vs i 0 _ (pmPad_get _ _ _ _ hg))
  have lenP : (pmPad M.2.1 (pmEnt vs)).length = M.2.1 := by rw [pmPad_len]; omega
  rcases hhd with ⟨hno, ws', hws⟩ | ⟨hyes, ws', hws⟩
  · refine vx_ofW (cc := dbc D mid) (maxL := M.2.1) (ret := drt D mid) hpl hws ?_
    intro p e s m args below meth c s₁ B hml htab hv
    obtain ⟨rfl, rfl, hP, hK, hD0, hX, hXl, hXA, hG0⟩ := hv
    have hts := atoms_spec (ws := dws D mid) B.pre
    have hown : s.vm.findClass (dyy D mid).cls = some m.cls := findClass_of_methodNamed B.named
    have hnm : (dyy D mid).name = "<init>" → meth.name = "<init>" := fun q => (name_of_methodNamed B.named B.method).1.trans q
    rw [lg_entry_eq]
    exact hB mid M hG p e _ s m _ below meth c dC dI cI cZ cJ (va_A (pmWd (dcl D) (dty D) cI cZ cJ φ w) s.heap.size) (φ 0) L (pmi w 0) ⟨B.exec, B.bytes, hml, hown, hts, hnm, fun q => absurd hno q, rfl, rfl⟩ ⟨hK, fun q h => Or.inr h, hX, hXl, hXA⟩ hG0 _ 0 _ [] w out wF φ _ s.heap [] 0 0 hrun lenP okS (pm_entry hlen)
      ⟨hP, hD0.self, va_S.rf, hwf, rfl, hh0, rfl⟩ (by show 0 + pmnc wF ≤ (pmnc wF - pmnc w) + pmnc w; omega) (by show 0 + pmns wF ≤ (pmns wF - pmns w) + pmns w; omega)
      (pm_met_body hst B.exec B.bytes B.returns hts hown B.notSynchronized hml (fun _ => htab) hwf hh0 hG0)
  · refine vx_ofWH (cc := dbc D mid) (maxL := M.2.1) (ret := drt D mid) (hh := dhs D mid) hpl hws ?_
    intro p e s m args below meth c s₁ B hml hv
    obtain ⟨rfl, rfl, hP, hK, hD0, hX, hXl, hXA, hG0⟩ := hv
    have hts := atoms_spec (ws := dws D mid) B.pre
    have hown : s.vm.findClass (dyy D mid).cls = some m.cls := findClass_of_methodNamed B.named
    have hnm : (dyy D mid).name = "<init>" → meth.name = "<init>" := fun q => (name_of_methodNamed B.named B.method).1.trans q
    have htb := vx_table (x := dyy D mid) B (hts _ (by rw [hws]; exact List.mem_cons_self))
    rw [lg_entry_eq]
    exact hB mid M hG p e _ s m _ below meth c dC dI cI cZ cJ (va_A (pmWd (dcl D) (dty D) cI cZ cJ φ w) s.heap.size) (φ 0) L (pmi w 0) ⟨B.exec, B.bytes, hml, hown, hts, hnm, fun _ => htb, rfl, rfl⟩ ⟨hK, fun q h => Or.inr h, hX, hXl, hXA⟩ hG0 _ 0 _ [] w out wF φ _ s.heap [] 0 0 hrun lenP okS (pm_entry hlen)
      ⟨hP, hD0.self, va_S.rf, hwf, rfl, hh0, rfl⟩ (by show 0 + pmnc wF ≤ (pmnc wF - pmnc w) + pmnc w; omega) (by show 0 + pmns wF ≤ (pmns wF - pmns w) + pmns w; omega)
      (pm_met_body hst B.exec B.bytes B.returns hts hown B.notSynchronized hml (fun q => absurd q hyes) hwf hh0 hG0)
end PMU
end
section
section PMV
variable {D : pmD} {l : Launch}
theorem pm_mono : ∀ (n mid pc : Nat) (lo : pmL) (st : List Value) (w : pmW) (o : pmO) (w1 : pmW), pmRun D n mid pc lo st w = some (o, w1) → pmn w ≤ pmn w1 ∧ pmnc w ≤ pmnc w1 ∧ pmns w ≤ pmns w1 := by
  intro n
  induction n with
  | zero => intro mid pc lo st w o w1 h; cases h
  | succ n ih =>
    intro mid pc lo st w o w1 h
    have tr : ∀ {w2 : pmW}, (pmn w ≤ pmn w2 ∧ pmnc w ≤ pmnc w2 ∧ pmns w ≤ pmns w2) → (pmn w2 ≤ pmn w1 ∧ pmnc w2 ≤ pmnc w1 ∧ pmns w2 ≤ pmns w1) → pmn w ≤ pmn w1 ∧ pmnc w ≤ pmnc w1 ∧ pmns w ≤ pmns w1 := fun a b => ⟨Nat.le_trans a.1 b.1, Nat.le_trans a.2.1 b.2.1, Nat.le_trans a.2.2 b.2.2⟩
    unfold pmRun pmX at h
    split at h
    · cases h
    · split at h
      · cases h
      · split at h
        · split at h
          · split at h
            · cases h; exact ⟨Nat.le_refl _, Nat.le_refl _, Nat.le_refl _⟩
            · cases h
          · cases h
        · split at h
          · cases h; exact ⟨Nat.le_refl _, Nat.le_refl _, Nat.le_refl _⟩
          · cases h
        · split at h
          · cases h; exact ⟨Nat.le_refl _, Nat.le_refl _, Nat.le_refl _⟩
          · cases h
        · split at h
          · cases h; exact ⟨Nat.le_refl _, Nat.le_refl _, Nat.le_refl _⟩
          · cases h
        · split at h
          · split at h
            · cases h; exact ⟨Nat.le_refl _, Nat.le_succ _, Nat.le_add_right _ _⟩
            · cases h
          · cases h
        · split at h
          · split at h
            · exact ih _ _ _ _ _ _ _ h
            · cases h
          · cases h
        · split at h
          · split at h
            · exact ih _ _ _ _ _ _ _ h
            · cases h
          · cases h
        · split at h
          · split at h
            · exact ih _ _ _ _ _ _ _ h
            · cases h
          · cases h
        · split at h
          · split at h
            · exact ih _ _ _ _ _ _ _ h
            · cases h
          · cases h
        · split at h
          · split at h
            · exact ih _ _ _ _ _ _ _ h
            · cases h
          · cases h
        · split at h
          · cases h
          · split at h
            · split at h
              · cases h
              · rename_i hq; exact tr (ih _ _ _ _ _ _ _ hq) (ih _ _ _ _ _ _ _ h)
              · rename_i hq
                split at h
                · cases h; exact ih _ _ _ _ _ _ _ hq
                · split at h
                  · cases h
                  · split at h
                    · exact tr (ih _ _ _ _ _ _ _ hq) (ih _ _ _ _ _ _ _ h)
                    · exact tr (ih _ _ _ _ _ _ _ hq) (ih _ _ _ _ _ _ _ h)
                    · cases h
            · cases h
        · split at h
          · cases h
          · split at h
            · split at h
              · rename_i hq; exact tr (ih _ _ _ _ _ _ _ hq) (ih _ _ _ _ _ _ _ h)
              · cases h
            · cases h
        · split at h
          · cases h
          · split at h
            · split at h
              · rename_i hq; exact tr (ih _ _ _ _ _ _ _ hq) (ih _ _ _ _ _ _ _ h)
              · cases h
            · cases h
        · split at h
          · exact ih _ _ _ _ _ _ _ h
          · split at h
            · rename_i hq; exact tr (pmB_keep hq).2.1 (ih _ _ _ _ _ _ _ h)
            · cases h
theorem pmSum_eq (φ : Nat → Nat) : ∀ st : List Value, ((st.map (pmV φ)).map fun v => v.category).sum = pmSum st
  | [] => rfl
  | v :: r => by simp [pmSum, pmV_cat, ← pmSum_eq φ r]
theorem pmSum_eq0 : ∀ st : List Value, (st.map fun v => v.category).sum = pmSum st
  | [] => rfl
  | v :: r => by simp [pmSum, ← pmSum_eq0 r]
/-- a contract that can't throw -/
theorem pm_toMet {y : MethodName} {ws : List Cond} {rm : Room} {Pc : Array Value → State → Prop} {Qc : Array Value → State → Outcome → State → Prop} {XC : String → State → State → Prop} {mc ms : Nat} {free : Addr → Prop} (h : vx_Met l y ws rm Pc Qc XC mc ms free) (hx : ∀ E st t, ¬ XC E st t) : Met l y ws rm Pc Qc mc ms free := by
  intro p e h1 h2 h3 s m args below h4 h5 h6 h7
  obtain ⟨n, o, a1, a2, a3, a4⟩ := h p e h1 h2 h3 s m args below h4 h5 h6 h7
  refine ⟨n, o, a1, a2, a3, ?_⟩
  rcases a4 with q | ⟨q, -, E, ce, L, z, -⟩
  · exact q
  · exact absurd z (hx _ _ _)
/-- the frame of the contract is blind -/
theorem pmPc_blind {dC : Nat → ClassId} {dI : Nat → Nat → Nat} {cI cZ cJ : ClassId} {L : Nat} {φ : Nat → Nat} {w : pmW} {vs : List Value} {sz : Nat} : FrameBlind (pmPc D dC dI cI cZ cJ L φ w vs sz) := by
  intro a U g mk h
  obtain ⟨q0, q1, qP, qK, qD, qX, qX2, qX3, qG⟩ := h
  exact ⟨q0, q1, qP, va_K.moved (u := U) (U := U.calling g mk a) (Vm.Alike.refl U.vm) qK, qD, va_X.moved (u := U) (U := U.calling g mk a) (Vm.Alike.refl U.vm) qX, qX2, qX3, qG.calling g mk a⟩
/-- the contract's start at a call -/
theorem pmPc_at {dC : Nat → ClassId} {dI : Nat → Nat → Nat} {cI cZ cJ : ClassId} {A : Nat → Prop} {s : State} {b L : Nat} {xs : Nat → Int32} {φ : Nat → Nat} {w : pmW} {vs : List Value} {H : Heap} {locs : List Loc}
    (F : pmFix (dcl D) dC dI cI cZ cJ A s b L xs) (I : pmInv (dcl D) (dty D) dC dI cI cZ cJ A s b L xs φ w H locs) (G : pmG D A s) (hA : ∀ q, va_A (pmWd (dcl D) (dty D) cI cZ cJ φ w) H.size q → A q) : ∀ U : State, U.heap = H → s.WarmedH U.vm → pmPc D dC dI cI cZ cJ L φ w vs H.size (vs.map (pmV φ)).toArray U := by
  intro U hU hW
  obtain ⟨hK, hA0, hX, hbl, hbA⟩ := F
  obtain ⟨hP, hD, hS, hw, h0, hh0, hi0⟩ := I
  subst hU
  have hX1 : va_X b L xs U U.heap := (hX.moved hW.alike).kept (hS.2.1 b hbl hbA)
  refine ⟨rfl, rfl, hP, va_K.moved hW.alike hK, hD.weaken (fun _ _ _ _ => trivial), by rw [h0, hi0]; exact hX1, by rw [h0]; exact Nat.lt_of_lt_of_le hbl hS.1, ?_, G.next hW rfl hS hA⟩
  rw [h0]
  exact fun q => hbA (hA b q)
/-- the callee may change no more than the caller -/
theorem pmA_sub {dC : Nat → ClassId} {dI : Nat → Nat → Nat} {cI cZ cJ : ClassId} {A : Nat → Prop} {s : State} {b L : Nat} {xs : Nat → Int32} {φ : Nat → Nat} {w : pmW} {H : Heap} {locs : List Loc}
    (F : pmFix (dcl D) dC dI cI cZ cJ A s b L xs) (I : pmInv (dcl D) (dty D) dC dI cI cZ cJ A s b L xs φ w H locs) : ∀ q, va_A (pmWd (dcl D) (dty D) cI cZ cJ φ w) H.size q → A q := by
  intro q h
  rcases h with ⟨k, e, h⟩ | h
  · exact I.2.1.2 k (q, e) h
  · exact F.2.1 q (Nat.le_trans I.2.2.1.1 h)
/-- behind a call -/
theorem pmInv_back {dC : Nat → ClassId} {dI : Nat → Nat → Nat} {cI cZ cJ : ClassId} {A : Nat → Prop} {s st₀ t T' : State} {b L : Nat} {xs : Nat → Int32} {φ φ1 : Nat → Nat} {w w1 : pmW} {H : Heap} {locs L1 : List Loc}
    (F : pmFix (dcl D) dC dI cI cZ cJ A s b L xs) (I : pmInv (dcl D) (dty D) dC dI cI cZ cJ A s b L xs φ w H locs) (h0 : st₀.heap = H) (e1 : T'.heap = t.heap) (hL : ∀ q ∈ L1, va_A (pmWd (dcl D) (dty D) cI cZ cJ φ w) H.size q.base)
    (B : pmPw D dC dI cI cZ cJ φ w w1 H.size st₀ t φ1) : pmInv (dcl D) (dty D) dC dI cI cZ cJ A s b L xs φ1 w1 T'.heap (locs ++ L1) := by
  have hA := pmA_sub F I
  obtain ⟨hP, hD, hS, hw, g0, hh0, hi0⟩ := I
  obtain ⟨bP, bD, bφ, bw, bh, bi, bF⟩ := B
  obtain ⟨k1, k2, k3⟩ := vx_keep h0 e1 hS (fun q _ z => hA q z) hA hL bF
  exact ⟨by rw [e1]; exact bP, bD.weaken (fun k q _ z => hA q.1 z), k3, bw, (bφ 0 (Nat.zero_le _)).trans g0, bh.trans hh0, bi.trans hi0⟩
end PMV
end
section
section PMY
variable {D : pmD} {l : Launch}
theorem pmLv_del2 {φ : Nat → Nat} {lo : pmL} {ls : Array Slot} {nL i : Nat} {x : Value} (h : lv_has ls nL ((i, x) :: (pmLv φ lo).filter (fun q => !(q.1 == i) && !(q.1 + 1 == i && q.2.category == 2)))) : lv_has ls nL (pmLv φ (pmDel i (pmSet (.int 0) i lo))) := by
  refine ⟨h.1, h.2.1, fun q hq => ?_⟩
  obtain ⟨u, h1, h3⟩ := pmLv_mem.mp hq
  obtain ⟨a, b⟩ := pmDel_get u i q.1 _ h1
  rcases pmSet_get _ u i q.1 lo b with ⟨z, -⟩ | ⟨-, z, d⟩
  · exact absurd z a
  · refine h.2.2 q (List.mem_cons_of_mem _ (List.mem_filter.mpr ⟨pmLv_mem.mpr ⟨u, z, h3⟩, ?_⟩))
    have hc : q.2.category = u.category := by rw [h3]; exact pmV_cat φ u
    rw [hc]
    simp only [Bool.and_eq_true, Bool.not_eq_true', beq_eq_false_iff_ne, ne_eq, Bool.and_eq_false_iff]
    refine ⟨a, ?_⟩
    by_cases e : q.1 + 1 = i
    · exact Or.inr (fun y => d ⟨e, y⟩)
    · exact Or.inl e
theorem pmRc_spec {w : pmW} {k y : Nat} {st : List Value} (h : pmRc w k st y = true) : ∃ a r, st.drop (y - 1) = .ref a :: r ∧ pmh w a = .inr k ∧ 1 ≤ a ∧ a ≤ pmn w := by
  unfold pmRc at h
  split at h
  · rename_i a r hq
    split at h
    · rename_i c hc
      simp only [Bool.and_eq_true] at h
      obtain ⟨h1, h2, h3⟩ := h
      exact ⟨a, r, hq, by rw [hc, Nat.eq_of_beq_eq_true h1], Nat.le_of_ble_eq_true h2, Nat.le_of_ble_eq_true h3⟩
    · cases h
  · cases h
theorem pmArgs {st r : List Value} {v : Value} {y : Nat} (hy : 1 ≤ y) (h : st.drop (y - 1) = v :: r) : (st.take y).reverse = v :: (st.take (y - 1)).reverse ∧ r = st.drop y ∧ st = st.take (y - 1) ++ v :: st.drop y := by
  have hlt : y - 1 < st.length := by
    rcases Nat.lt_or_ge (y - 1) st.length with q | q
    · exact q
    · rw [List.drop_eq_nil_of_le q] at h; cases h
  have h1 : st[y - 1] = v := by
    have := List.drop_eq_getElem_cons hlt
    rw [h] at this
    exact (List.cons.inj this).1.symm
  have h2 : r = st.drop y := by
    have := List.drop_eq_getElem_cons hlt
    rw [h] at this
    have := (List.cons.inj this).2
    rw [this, Nat.sub_add_cancel hy]
  refine ⟨?_, h2, ?_⟩
  · have e : st.take y = st.take (y - 1) ++ [v] := by
      have := List.take_succ_eq_append_getElem hlt
      rw [Nat.sub_add_cancel hy, h1] at this
      exact this
    rw [e]
    simp
  · rw [← h2, ← h, List.take_append_drop]
variable {p : Program} {e : Env} {R : Room} {s : State} {m : MethodId} {args : Array Value} {below : List Frame} {meth : Method} {c : Code} {dC : Nat → ClassId} {dI : Nat → Nat → Nat} {cI cZ cJ : ClassId} {A : Nat → Prop} {b L : Nat} {xs : Nat → Int32} {Q : State → Prop} {w w1 : pmW} {φ : Nat → Nat} {cells slots mc ms : Nat} {H : Heap} {locs : List Loc} {ls : Array Slot} {pc : Nat} {stk rest : List Value} {v : Option Value} {a : Array Value}
theorem pm_after (F : pmFix (dcl D) dC dI cI cZ cJ A s b L xs) (I : pmInv (dcl D) (dty D) dC dI cI cZ cJ A s b L xs φ w H locs)
    (hr : vx_Run p l e R s m args below meth c H locs cells slots mc ms (F0 m pc ls stk) rest (pmQc D dC dI cI cZ cJ φ w w1 H.size (.inl v) a) (pmXc D dC dI cI cZ cJ φ w w1 H.size (.inl v)) (va_A (pmWd (dcl D) (dty D) cI cZ cJ φ w) H.size))
    (kk : ∀ (φ1 : Nat → Nat) (H1 : Heap) (locs1 : List Loc), (∀ a, a ≤ pmn w → φ1 a = φ a) → pmInv (dcl D) (dty D) dC dI cI cZ cJ A s b L xs φ1 w1 H1 locs1 → (∀ a, v = some (.ref a) → a ≤ pmn w1) → W p l e R s m args below meth c H1 locs1 (cells + mc) (slots + ms) Q (F0 m (pc + 3) ls ((v.map (pmV φ1)).toList ++ rest))) :
    W p l e R s m args below meth c H locs cells slots Q (F0 m pc ls stk) := by
  intro T hT X
  rcases hr T hT X with ⟨v', st₀, t, T', L1, h0, X', hL1, e1, e2, ⟨v2, φ1, hv2, ho, hvr, B⟩, stp⟩ | ⟨q, st₀, t, T', L1, E, ce, h0, X', hL1, e1, e2, ⟨x2, φ1, hx2, -⟩, -⟩
  · cases hv2
    cases ho
    obtain ⟨t2, a1, b1⟩ := kk φ1 T'.heap (locs ++ L1) B.2.2.1 (pmInv_back F I h0 e1 hL1 B) hvr T' rfl X'
    exact ⟨t2, stp t2 a1, b1⟩
  · cases hx2
theorem pm_afterX {x : Nat} (F : pmFix (dcl D) dC dI cI cZ cJ A s b L xs) (I : pmInv (dcl D) (dty D) dC dI cI cZ cJ A s b L xs φ w H locs)
    (hr : vx_Run p l e R s m args below meth c H locs cells slots mc ms (F0 m pc ls stk) rest (pmQc D dC dI cI cZ cJ φ w w1 H.size (.inr x) a) (pmXc D dC dI cI cZ cJ φ w w1 H.size (.inr x)) (va_A (pmWd (dcl D) (dty D) cI cZ cJ φ w) H.size))
    (kk : ∀ (φ1 : Nat → Nat) (H1 : Heap) (locs1 : List Loc) (q : Addr) (ce : Cell), (∀ a, a ≤ pmn w → φ1 a = φ a) → pmInv (dcl D) (dty D) dC dI cI cZ cJ A s b L xs φ1 w1 H1 locs1 → H1[q]? = some ce → ce.vm = .none → s.vm.findClass (dex D x) = some ce.cls → vx_W p l e R s m args below meth c H1 locs1 (cells + mc) (slots + ms) Q (F0 m pc ls rest) q) :
    W p l e R s m args below meth c H locs cells slots Q (F0 m pc ls stk) := by
  intro T hT X
  rcases hr T hT X with ⟨v', st₀, t, T', L1, h0, X', hL1, e1, e2, ⟨v2, φ1, hv2, -⟩, stp⟩ | ⟨q, st₀, t, T', L1, E, ce, h0, X', hL1, e1, e2, ⟨x2, φ1, hx2, hE, B⟩, hce, hcv, hcl, stp⟩
  · cases hv2
  · cases hx2
    subst hE
    obtain ⟨t2, a1, b1⟩ := kk φ1 T'.heap (locs ++ L1) q ce B.2.2.1 (pmInv_back F I h0 e1 hL1 B) (by rw [e1]; exact hce) hcv hcl T' rfl X'
    exact ⟨t2, stp.trans a1, b1⟩
theorem pm_vaRun {Qa : State → Outcome → State → Prop} {XC : String → State → State → Prop} {g : JFrame} {free : Addr → Prop} (h : va_Run p l e R s m args below meth c H locs cells slots mc ms g rest Qa free) : vx_Run p l e R s m args below meth c H locs cells slots mc ms g rest Qa XC free :=
  fun T hT X => Or.inl (h T hT X)
end PMY
end
section
section PMZ
variable {D : pmD} {l : Launch}
theorem pmEOk_rest {mid : Nat} {M : pmM} {pc x y : Nat} {k : Int32} {i : Instr} (h : pmEOk D mid M pc (i, x, y, k)) (h1 : i ≠ .ireturn) (h2 : i ≠ .lreturn) (h3 : i ≠ .areturn) (h4 : i ≠ .return_) (h5 : i ≠ .athrow) (h6 : i ≠ .nop) (h7 : ∀ n, i ≠ .invokevirtual n) (h8 : ∀ n, i ≠ .invokestatic n) (h9 : ∀ n, i ≠ .invokespecial n) (h10 : i ≠ .swap) (h11 : i ≠ .dup_x1) (h12 : i ≠ .dup_x2) (h13 : i ≠ .dup2_x1) :
    (match pmKA i with
    | true => pmOkA (dyy D mid).cls (dmb D) (dbc D mid) M.2.1 pc i x k
    | false => pmOkB (dcl D) (dyy D mid).cls (decide ((dyy D mid).name = "<init>")) (dmb D) (dbc D mid) pc i x y) = true := by
  unfold pmEOk at h
  split at h <;> first
    | exact h
    | (rename_i heq; exact absurd heq h1)
    | (rename_i heq; exact absurd heq h2)
    | (rename_i heq; exact absurd heq h3)
    | (rename_i heq; exact absurd heq h4)
    | (rename_i heq; exact absurd heq h5)
    | (rename_i heq; exact absurd heq h6)
    | (rename_i heq; exact absurd heq (h7 _))
    | (rename_i heq; exact absurd heq (h8 _))
    | (rename_i heq; exact absurd heq (h9 _))
    | (rename_i heq; exact absurd heq h10)
    | (rename_i heq; exact absurd heq h11)
    | (rename_i heq; exact absurd heq h12)
    | (rename_i heq; exact absurd heq h13)
theorem pmRf1_spec {st : List Value} {y : Nat} (h : pmRf1 st y = true) : ∃ a r, st.drop (y - 1) = .ref a :: r := by
  unfold pmRf1 at h
  split at h
  · rename_i a r hq; exact ⟨a, r, hq⟩
  · cases h
theorem pmOkS_app {n : Nat} {lo : pmL} {st1 st2 : List Value} (h : pmOkS n lo st2) (h1 : ∀ a, Value.ref a ∈ st1 → a ≤ n) : pmOkS n lo (st1 ++ st2) := ⟨h.1, fun a q => (List.mem_append.mp q).elim (h1 a) (h.2 a)⟩
theorem pmV_opt {φ1 : Nat → Nat} {v : Option Value} {r : List Value} : (v.toList ++ r).map (pmV φ1) = (v.map (pmV φ1)).toList ++ r.map (pmV φ1) := by cases v <;> rfl
set_option maxHeartbeats 8000000 in
theorem pm_body (hD : pmDOk D) (hst : l.stackTraces = false) : ∀ n, pmBody D l n := by
  intro n
  induction n with
  | zero =>
    intro mid M hG p e R s m args below meth c dC dI cI cZ cJ A b L xs C F G0 Q pc lo st w out wF φ ls H locs cells slots h
    cases h
  | succ n ih =>
    have hMet : pmMet D l n := pm_met_of hst ih
    intro mid M hG p e R s m args below meth c dC dI cI cZ cJ A b L xs C F G0 Q pc lo st w out wF φ ls H locs cells slots h hlen okS hl I hc hs K
    obtain ⟨hx, hb, hml, hown, hts, hnm, htab, hRf, hRl⟩ := id C
    obtain ⟨hmb, hcw, hHk, hE⟩ := hD.2 mid M hG
    have hmb2 : ∀ w, dmb D w = true → w.before args s = true := fun w h => hts w (hmb w h)
    have hA := pmA_sub F I
    -- going on behind a call that returns
    have back : ∀ (v : Option Value) (w1 : pmW) (x : Nat) (lo2 : pmL), pmRun D n x 0 lo2 [] w = some (.inl v, w1) → ∀ y, pmRun D n mid (pc + 3) lo (v.toList ++ st.drop y) w1 = some (out, wF) → ∀ (φ1 : Nat → Nat) (H1 : Heap) (locs1 : List Loc), (∀ a, a ≤ pmn w → φ1 a = φ a) → pmInv (dcl D) (dty D) dC dI cI cZ cJ A s b L xs φ1 w1 H1 locs1 → (∀ a, v = some (.ref a) → a ≤ pmn w1) →
        W p l e R s m args below meth c H1 locs1 (cells + (pmnc w1 - pmnc w)) (slots + (pmns w1 - pmns w)) Q (F0 m (pc + 3) ls ((v.map (pmV φ1)).toList ++ (st.drop y).map (pmV φ))) := by
      intro v w1 x lo2 hq y h2 φ1 H1 locs1 g1 g2 g3
      have m1 := pm_mono n x 0 _ _ w _ w1 hq
      have m2 := pm_mono n mid (pc + 3) _ _ w1 _ wF h2
      have g4 : (st.drop y).map (pmV φ1) = (st.drop y).map (pmV φ) := pmSt_agree g1 (fun a ha => okS.2 a (List.mem_of_mem_drop ha))
      rw [← g4, ← pmV_opt]
      refine ih mid M hG p e R s m args below meth c dC dI cI cZ cJ A b L xs C F G0 Q (pc + 3) lo (v.toList ++ st.drop y) w1 out wF φ1 ls H1 locs1 _ _ h2 hlen ?_ (by rw [pmLv_agree g1 okS.1]; exact hl) g2 (by omega) (by omega) (K.step g1 m1.1 (by omega) (by omega))
      refine pmOkS_app ((pmOkS_sub okS (fun a ha => List.mem_of_mem_drop ha)).mono m1.1) (fun a ha => g3 a ?_)
      cases v with
      | none => simp at ha
      | some u => simp at ha; rw [ha]
    unfold pmRun pmX at h
    split at h
    · cases h
    · rename_i M' hG'
      have eM : M' = M := Option.some.inj (hG'.symm.trans hG)
      subst eM
      split at h
      · cases h
      · rename_i i x y k hcode
        have hek := hE pc _ hcode
        split at h
        · -- ireturn
          split at h
          · rename_i v
            split at h
            · rename_i hif
              cases h
              obtain ⟨q1, q2⟩ := hek
              refine K.1 φ ls H locs cells slots pc (some (.int v)) rfl (Or.inl ⟨v, rfl, q1, ?_⟩) (fun a ha => by cases ha) (fun _ _ => rfl) I rfl rfl
              rcases q2 with q2 | ⟨q2, q3⟩
              · exact Or.inl q2
              · refine Or.inr ⟨q2, ?_⟩
                rcases hif with z | z
                · have q3 : y = 1 := q3
                  omega
                · exact z
            · cases h
          · cases h
        · -- lreturn
          split at h
          · rename_i v
            cases h
            exact K.1 φ ls H locs cells slots pc (some (.long v)) rfl (Or.inr (Or.inl ⟨v, rfl, hek.1, hek.2⟩)) (fun a ha => by cases ha) (fun _ _ => rfl) I rfl rfl
          · cases h
        · -- areturn
          split at h
          · rename_i v
            cases h
            exact K.1 φ ls H locs cells slots pc (some (.ref v)) rfl (Or.inr (Or.inr (Or.inl ⟨v, rfl, hek.1, hek.2⟩))) (fun a ha => by cases ha; exact okS.2 _ (by simp)) (fun _ _ => rfl) I rfl rfl
          · cases h
        · -- return
          split at h
          · cases h
            exact K.1 φ ls H locs cells slots pc none rfl (Or.inr (Or.inr (Or.inr ⟨rfl, hek.1, hek.2⟩))) (fun a ha => by cases ha) (fun _ _ => rfl) I rfl rfl
          · cases h
        · -- athrow
          split at h
          · rename_i hno
            split at h
            · rename_i hsum
              cases h
              exact K.2.1 φ ls H locs cells slots pc x w (st.map (pmV φ)) rfl hek hno rfl hl.1 (by rw [pmSum_eq]; exact hsum) (fun _ _ => rfl) I rfl rfl
            · cases h
          · cases h
        · -- Object.<init>
          split at h
          · rename_i a r
            split at h
            · rename_i hsum
              obtain ⟨idx, o1, o2, o3, o4, o5, o6⟩ := hek
              have hroom := lv_room (m := m) (pc := pc) (ls := ls) (rest := (Value.ref a :: r).map (pmV φ)) (st := r.map (pmV φ)) (by rw [pmSum_eq]; exact hsum)
              refine W.objInit hx hb hown (hts _ o2) (hts _ o3) (hts _ o4) rfl (by rw [hml]; exact hl.1) rfl o1 (by rw [hRf]; exact o5) (by rw [hRl]; omega) ?_
              exact ih mid M' hG p e R s m args below meth c dC dI cI cZ cJ A b L xs C F G0 Q (pc + 3) lo r w out wF φ ls H locs cells slots h hlen (pmOkS_sub okS (fun a ha => List.mem_cons_of_mem _ ha)) hl I hc hs K
            · cases h
          · cases h
        · -- Math.max
          split at h
          · rename_i vb va r
            split at h
            · rename_i hsum
              obtain ⟨idx, o1, o2, o3, o4, o5, o6, o7⟩ := hek
              have hm2 := pm_mono n mid (pc + 3) _ _ w _ wF h
              refine va_mmax hx hb (by rw [hml]; exact hl.1.symm) hown (hts _ o2) (hts _ o3) (hts _ o4) (hts _ o5) (by rw [hRf]; exact o6) (by rw [pmSum_eq, hRl]; omega) (by omega) (by omega) o1 ?_
              exact ih mid M' hG p e R s m args below meth c dC dI cI cZ cJ A b L xs C F G0 Q (pc + 3) lo _ w out wF φ ls H locs cells slots h hlen ⟨okS.1, fun a ha => okS.2 a (by simp at ha ⊢; exact ha)⟩ hl I hc hs K
            · cases h
          · cases h
        · -- Math.min
          split at h
          · rename_i vb va r
            split at h
            · rename_i hsum
              obtain ⟨idx, o1, o2, o3, o4, o5, o6, o7⟩ := hek
              have hm2 := pm_mono n mid (pc + 3) _ _ w _ wF h
              refine va_mmin hx hb (by rw [hml]; exact hl.1.symm) hown (hts _ o2) (hts _ o3) (hts _ o4) (hts _ o5) (by rw [hRf]; exact o6) (by rw [pmSum_eq, hRl]; omega) (by omega) (by omega) o1 ?_
              exact ih mid M' hG p e R s m args below meth c dC dI cI cZ cJ A b L xs C F G0 Q (pc + 3) lo _ w out wF φ ls H locs cells slots h hlen ⟨okS.1, fun a ha => okS.2 a (by simp at ha ⊢; exact ha)⟩ hl I hc hs K
            · cases h
          · cases h
        · -- Math.max long
          split at h
          · rename_i vb va r
            split at h
            · rename_i hsum
              obtain ⟨idx, o1, o2, o3, o4, o5, o6, o7⟩ := hek
              have hm2 := pm_mono n mid (pc + 3) _ _ w _ wF h
              refine va_mmax_long hx hb (by rw [hml]; exact hl.1.symm) hown (hts _ o2) (hts _ o3) (hts _ o4) (hts _ o5) (by rw [hRf]; exact o6) (by rw [pmSum_eq, hRl]; omega) (by omega) (by omega) o1 ?_
              exact ih mid M' hG p e R s m args below meth c dC dI cI cZ cJ A b L xs C F G0 Q (pc + 3) lo _ w out wF φ ls H locs cells slots h hlen ⟨okS.1, fun a ha => okS.2 a (by simp at ha ⊢; exact ha)⟩ hl I hc hs K
            · cases h
          · cases h
        · -- Math.min long
          split at h
          · rename_i vb va r
            split at h
            · rename_i hsum
              obtain ⟨idx, o1, o2, o3, o4, o5, o6, o7⟩ := hek
              have hm2 := pm_mono n mid (pc + 3) _ _ w _ wF h
              refine va_mmin_long hx hb (by rw [hml]; exact hl.1.symm) hown (hts _ o2) (hts _ o3) (hts _ o4) (hts _ o5) (by rw [hRf]; exact o6) (by rw [pmSum_eq, hRl]; omega) (by omega) (by omega) o1 ?_
              exact ih mid M' hG p e R s m args below meth c dC dI cI cZ cJ A b L xs C F G0 Q (pc + 3) lo _ w out wF φ ls H locs cells slots h hlen ⟨okS.1, fun a ha => okS.2 a (by simp at ha ⊢; exact ha)⟩ hl I hc hs K
            · cases h
          · cases h
        · -- invokevirtual
          rename_i idx
          split at h
          · cases h
          · rename_i M2 hG2
            split at h
            · rename_i hcond
              obtain ⟨hy, hy1, hsum, hrc, hel⟩ := hcond
              obtain ⟨hdec, hcv⟩ := hek
              obtain ⟨c1, c2, c3, ⟨c4, c5, c6, c7⟩, T, N, c8⟩ := hcv M2 hG2
              obtain ⟨a, r, r1, r2, r3, r4⟩ := pmRc_spec hrc
              obtain ⟨l1, l2, l3⟩ := pmArgs hy1 r1
              rw [l1] at hel
              have hws : ∃ ws', dws D x = .code (dyy D x) (dbc D x) M2.2.1 (drt D x) :: ws' := by
                rcases c7 with ⟨-, z⟩ | ⟨z, -⟩
                · exact z
                · exact absurd c1 z
              obtain ⟨ws', hws⟩ := hws
              have hstack : st.map (pmV φ) = (((st.take (y - 1)).reverse).map (pmV φ)).reverse ++ .ref (φ a) :: (st.drop y).map (pmV φ) := by
                have e := congrArg (List.map (pmV φ)) l3
                rw [List.map_append, List.map_cons] at e
                rw [e]
                simp [pmV]
              have hcall : ∀ (o1 : pmO) (w1 : pmW), pmRun D n x 0 (pmPad M2.2.1 (pmEnt (st.take y).reverse)) [] w = some (o1, w1) → pmnc w1 ≤ pmnc wF → pmns w1 ≤ pmns wF →
                  vx_Run p l e R s m args below meth c H locs cells slots (pmnc w1 - pmnc w) (pmns w1 - pmns w) (F0 m pc ls (st.map (pmV φ))) ((st.drop y).map (pmV φ)) (pmQc D dC dI cI cZ cJ φ w w1 H.size o1 (Value.ref (φ a) :: ((st.take (y - 1)).reverse).map (pmV φ)).toArray) (pmXc D dC dI cI cZ cJ φ w w1 H.size o1) (va_A (pmWd (dcl D) (dty D) cI cZ cJ φ w) H.size) := by
                intro o1 w1 hrun k1 k2
                rw [l1] at hrun
                have mo := pm_mono n x 0 _ _ w _ w1 hrun
                have hM := hMet x M2 hG2 c6 c7 _ w o1 w1 L hrun hel (fun z hz => okS.2 z (by
                  rw [← l1] at hz
                  exact List.mem_of_mem_take (List.mem_reverse.mp hz))) I.2.2.2.1 I.2.2.2.2.2.1 dC dI cI cZ cJ φ H.size
                refine vx_runV (Ts := dws D mid) (own := (dyy D mid).cls) (nL := M'.2.1) (cc := dbc D mid) ⟨hx, hb, hml, hown, hts⟩ hM (cwV (y - 1) hts c2 hws rfl rfl ⟨rfl, c3.1, c3.2.1, c3.2.2⟩ ⟨by rw [hRf]; exact c4, by rw [hRl]; exact c5⟩)
                  ⟨pmPc_blind, va_recv (ci := M2.2.2.2) (q0 := a - 1) F.1 I.1 c8 (by rw [pmWd_at r3 r4, pmCl_obj r2]), pmPc_at F I G0 hA⟩ rfl ?_ hl.1 hstack (lv_room (by rw [pmSum_eq]; exact hsum)) hdec ⟨by omega, by omega⟩
                simp
                omega
              split at h
              · cases h
              · rename_i v w1 hrun
                have m2 := pm_mono n mid (pc + 3) _ _ w1 _ wF h
                exact pm_after F I (hcall _ w1 hrun m2.2.1 m2.2.2) (back v w1 x _ hrun y h)
              · rename_i ex w1 hrun
                have m1 := pm_mono n x 0 _ _ w _ w1 hrun
                split at h
                · rename_i hno
                  cases h
                  exact pm_afterX F I (hcall _ _ hrun (Nat.le_refl _) (Nat.le_refl _)) (fun φ1 H1 locs1 q ce g1 g2 g3 g4 g5 => K.2.2 φ1 ls H1 locs1 _ _ pc ex q ce _ rfl hno g3 g4 g5 g1 g2 (by omega) (by omega))
                · rename_i hd0 tl0 hyes
                  split at h
                  · cases h
                  · rename_i hp hhand
                    obtain ⟨pre, z, suf, z1, z2, z3, z4, z5, z6, z7⟩ := hHk pc ex hp hhand
                    have goH : ∀ (zz len : Nat) (i2 : Instr) (y2 : Nat) (k2 : Int32), pmCode M' hp = some (i2, zz, y2, k2) → (∃ j : Nat, i2 = .astore j ∧ len = 2) ∨ (∃ j : Fin 4, i2 = .astore_n j ∧ len = 1) → pmRun D n mid (hp + len) (pmDel zz (pmSet (.int 0) zz lo)) [] w1 = some (out, wF) → W p l e R s m args below meth c H locs cells slots Q (F0 m pc ls (st.map (pmV φ))) := by
                      intro zz len i2 y2 k2 hc2 hi2 h2
                      have m2 := pm_mono n mid (hp + len) _ _ w1 _ wF h2
                      have hne : M'.2.2.1 ≠ [] := by rw [hyes]; exact fun q => by cases q
                      refine pm_afterX F I (hcall _ w1 hrun m2.2.1 m2.2.2) (fun φ1 H1 locs1 q ce g1 g2 g3 g4 g5 => ?_)
                      refine vx_catch hown pre z suf (by rw [htab hne]; exact z1) (fun u hu => ?_) z3 z4 (hts _ z5) (pmEw_tabs (G0.2.2.1 _ z6).1 rfl (G0.2.2.1 _ z6).2) g3 g4 g5 ?_
                      · rcases z2 u hu with q1 | ⟨q1, nm, q2, q3⟩
                        · exact Or.inl q1
                        · exact Or.inr ⟨q1, nm, hts _ q2, G0.2.2.2.2 _ q3⟩
                      · rw [z7]
                        have hk2 := hE hp _ hc2
                        have hl1 : lv_has ls M'.2.1 (pmLv φ1 lo) := by rw [pmLv_agree g1 okS.1]; exact hl
                        have go : ∀ ls2, lv_has ls2 M'.2.1 ((zz, Value.ref q) :: (pmLv φ1 lo).filter (fun q => !(q.1 == zz) && !(q.1 + 1 == zz && q.2.category == 2))) → W p l e R s m args below meth c H1 locs1 (cells + (pmnc w1 - pmnc w)) (slots + (pmns w1 - pmns w)) Q (F0 m (hp + len) ls2 []) := by
                          intro ls2 hh2
                          refine ih mid M' hG p e R s m args below meth c dC dI cI cZ cJ A b L xs C F G0 Q (hp + len) _ [] w1 out wF φ1 ls2 H1 locs1 _ _ h2 (by rw [pmDel_len, pmSet_len]; exact hlen) ?_ (pmLv_del2 hh2) g2 (by omega) (by omega) (K.step g1 m1.1 (by omega) (by omega))
                          refine ⟨fun i a hg => ?_, fun a ha => by cases ha⟩
                          obtain ⟨-, hg⟩ := pmDel_get _ _ _ _ hg
                          rcases pmSet_get _ _ _ _ _ hg with ⟨-, q⟩ | ⟨-, q, -⟩
                          · cases q
                          · exact Nat.le_trans (okS.1 i a q) m1.1
                        rcases hi2 with ⟨j, rfl, rfl⟩ | ⟨j, rfl, rfl⟩
                        · have hk3 : pmOkA (dyy D mid).cls (dmb D) (dbc D mid) M'.2.1 hp (.astore j) zz k2 = true := hk2
                          simp only [pmOkA, Bool.and_eq_true, decide_eq_true_eq] at hk3
                          obtain ⟨p1, rfl, p3⟩ := hk3
                          exact lv_astore hx hb p1 hl1 p3 rfl go
                        · have hk3 : pmOkA (dyy D mid).cls (dmb D) (dbc D mid) M'.2.1 hp (.astore_n j) zz k2 = true := hk2
                          simp only [pmOkA, Bool.and_eq_true, decide_eq_true_eq] at hk3
                          exact lv_astore_n hx hb hk3.1 hk3.2.1 hl1 hk3.2.2 rfl go
                    split at h
                    · rename_i j z9 y9 k9 hc2
                      exact goH z9 1 _ y9 k9 hc2 (Or.inr ⟨j, rfl, rfl⟩) h
                    · rename_i j z9 y9 k9 hc2
                      exact goH z9 2 _ y9 k9 hc2 (Or.inl ⟨j, rfl, rfl⟩) h
                    · cases h
            · cases h
        · -- invokestatic
          rename_i idx
          split at h
          · cases h
          · rename_i M2 hG2
            split at h
            · rename_i hcond
              obtain ⟨hy, hsum, hel⟩ := hcond
              obtain ⟨hdec, hcv⟩ := hek
              obtain ⟨c3, ⟨c4, c5, c6, c7⟩, c8⟩ := hcv M2 hG2
              split at h
              · rename_i v w1 hrun
                have m1 := pm_mono n x 0 _ _ w _ w1 hrun
                have m2 := pm_mono n mid (pc + 3) _ _ w1 _ wF h
                have hM := hMet x M2 hG2 c6 c7 _ w _ w1 L hrun hel (fun z hz => okS.2 z (List.mem_of_mem_take (List.mem_reverse.mp hz))) I.2.2.2.1 I.2.2.2.2.2.1 dC dI cI cZ cJ φ H.size
                have hstack : st.map (pmV φ) = (((st.take y).reverse).map (pmV φ)).reverse ++ (st.drop y).map (pmV φ) := by
                  have e : st = st.take y ++ st.drop y := (List.take_append_drop y st).symm
                  have e := congrArg (List.map (pmV φ)) e
                  rw [List.map_append] at e
                  rw [e]
                  simp
                have hlen2 : (((st.take y).reverse).map (pmV φ)).length = y := by simp; omega
                refine pm_after (a := (((st.take y).reverse).map (pmV φ)).toArray) F I ?_ (back v w1 x _ hrun y h)
                have hR1 : drf D x + 1 ≤ R.frames ∧ 8 + (M2.2.1 + 11) + drl D x ≤ R.locals := ⟨by rw [hRf]; exact c4, by rw [hRl]; exact c5⟩
                have hp0 : PreS s H (pmPc D dC dI cI cZ cJ L φ w (st.take y).reverse H.size) (((st.take y).reverse).map (pmV φ)) := ⟨pmPc_blind, pmPc_at F I G0 hA⟩
                have hfit : cells + (pmnc w1 - pmnc w) ≤ R.cells ∧ slots + (pmns w1 - pmns w) ≤ R.slots := ⟨by omega, by omega⟩
                have hrm := lv_room (m := m) (pc := pc) (ls := ls) (rest := st.map (pmV φ)) (st := (st.drop y).map (pmV φ)) (by rw [pmSum_eq]; exact hsum)
                rcases c8 with c8 | ⟨n1, n2, ⟨host, n3⟩, n4, n5⟩
                · rcases c7 with ⟨-, ws', hws⟩ | ⟨-, ws', hws⟩
                  · exact vx_runS (Ts := dws D mid) (own := (dyy D mid).cls) (nL := M'.2.1) (cc := dbc D mid) ⟨hx, hb, hml, hown, hts⟩ hM (va_cwS y hts c8 hws rfl rfl c3 hR1) hp0 rfl hlen2 hl.1 hstack hrm hdec hfit
                  · exact vx_runSX (Ts := dws D mid) (own := (dyy D mid).cls) (nL := M'.2.1) (cc := dbc D mid) ⟨hx, hb, hml, hown, hts⟩ hM (vx_cwSW y hts c8 hws rfl rfl c3 hR1) hp0 rfl hlen2 hl.1 hstack hrm hdec hfit
                · have hws : ∃ ws', dws D x = .code (dyy D x) (dbc D x) M2.2.1 (drt D x) :: ws' := by
                    rcases c7 with ⟨-, z⟩ | ⟨z, -⟩
                    · exact z
                    · exact absurd n1 z
                  obtain ⟨ws', hws⟩ := hws
                  have hM2 := pm_toMet hM (fun E st t q => by obtain ⟨x2, φ2, q, -⟩ := q; cases q)
                  exact pm_vaRun (va_runSN (Ts := dws D mid) (own := (dyy D mid).cls) (nL := M'.2.1) (cc := dbc D mid) ⟨hx, hb, hml, hown, hts⟩ hM2 ⟨va_cnB (host := host) y hts n2 hws rfl rfl (G0.2.2.1 _ n3).2 (hts _ n4) c3 hR1, hts _ n5, trivial⟩ hp0 rfl hlen2 hl.1 hstack hrm hdec hfit)
              · cases h
            · cases h
        · -- invokespecial
          rename_i idx
          split at h
          · cases h
          · rename_i M2 hG2
            split at h
            · rename_i hcond
              obtain ⟨hy, hy1, hsum, hrf, hel⟩ := hcond
              obtain ⟨hdec, hcv⟩ := hek
              obtain ⟨c1, c2, c2b, c3, ⟨c4, c5, c6, c7⟩, n2, n3, n4, n5⟩ := hcv M2 hG2
              split at h
              · rename_i v w1 hrun
                obtain ⟨a, r, r1⟩ := pmRf1_spec hrf
                obtain ⟨l1, l2, l3⟩ := pmArgs hy1 r1
                rw [l1] at hrun hel
                have hws : ∃ ws', dws D x = .code (dyy D x) (dbc D x) M2.2.1 none :: ws' := by
                  rcases c7 with ⟨-, z⟩ | ⟨z, -⟩
                  · rw [c2] at z; exact z
                  · exact absurd c1 z
                obtain ⟨ws', hws⟩ := hws
                have m1 := pm_mono n x 0 _ _ w _ w1 hrun
                have m2 := pm_mono n mid (pc + 3) _ _ w1 _ wF h
                have hM := hMet x M2 hG2 c6 c7 _ w _ w1 L hrun hel (fun z hz => okS.2 z (by
                  rw [← l1] at hz
                  exact List.mem_of_mem_take (List.mem_reverse.mp hz))) I.2.2.2.1 I.2.2.2.2.2.1 dC dI cI cZ cJ φ H.size
                have hM2 := pm_toMet hM (fun E st t q => by obtain ⟨x2, φ2, q, -⟩ := q; cases q)
                refine pm_after (a := (Value.ref (φ a) :: ((st.take (y - 1)).reverse).map (pmV φ)).toArray) F I ?_ (back v w1 x _ hrun y h)
                have hR1 : drf D x + 1 ≤ R.frames ∧ 8 + (M2.2.1 + 11) + drl D x ≤ R.locals := ⟨by rw [hRf]; exact c4, by rw [hRl]; exact c5⟩
                have hfit : cells + (pmnc w1 - pmnc w) ≤ R.cells ∧ slots + (pmns w1 - pmns w) ≤ R.slots := ⟨by omega, by omega⟩
                have hrm := lv_room (m := m) (pc := pc) (ls := ls) (rest := st.map (pmV φ)) (st := (st.drop y).map (pmV φ)) (by rw [pmSum_eq]; exact hsum)
                have hlen2 : (((st.take (y - 1)).reverse).map (pmV φ)).length = y - 1 := by simp; omega
                have hstack : st.map (pmV φ) = (((st.take (y - 1)).reverse).map (pmV φ)).reverse ++ .ref (φ a) :: (st.drop y).map (pmV φ) := by
                  have e := congrArg (List.map (pmV φ)) l3
                  rw [List.map_append, List.map_cons] at e
                  rw [e]
                  simp [pmV]
                have hp0 : PreS s H (pmPc D dC dI cI cZ cJ L φ w (.ref a :: (st.take (y - 1)).reverse) H.size) (.ref (φ a) :: ((st.take (y - 1)).reverse).map (pmV φ)) := ⟨pmPc_blind, pmPc_at F I G0 hA⟩
                rcases n5 with n5 | ⟨host, n5⟩
                · exact pm_vaRun (va_runI (Ts := dws D mid) (own := (dyy D mid).cls) (nL := M'.2.1) (cc := dbc D mid) ⟨hx, hb, hml, hown, hts⟩ hM2 (cwI (y - 1) hts n2 hws rfl rfl (hts _ n3) (hts _ n5) (hts _ n4) c2b c3 hR1) hp0 rfl hlen2 hl.1 hstack hrm hdec hfit)
                · exact pm_vaRun (va_runIN (Ts := dws D mid) (own := (dyy D mid).cls) (nL := M'.2.1) (cc := dbc D mid) ⟨hx, hb, hml, hown, hts⟩ hM2 ⟨va_cnB (host := host) (y - 1) hts n2 hws rfl rfl (G0.2.2.1 _ n5).2 (hts _ n3) c3 hR1, c2b, hts _ n4⟩ hp0 rfl hlen2 hl.1 hstack hrm hdec hfit)
              · cases h
            · cases h
        · -- the rest
          rename_i i' k1 k2 k3 k4 k5 k6 k10 k11 k12 k13 k7 k8 k9
          have hk := pmEOk_rest hek k1 k2 k3 k4 k5 k6 k7 k8 k9 k10 k11 k12 k13
          split at h
          · rename_i pc1 lo1 st1 hq
            rw [pmKA_A hq] at hk
            obtain ⟨q1, q2⟩ := pmA_keep (n := pmn w) hq
            refine pm_soundA hx hb hown hmb2 hk hq hl (fun ls1 hl1 => ?_)
            exact ih mid M' hG p e R s m args below meth c dC dI cI cZ cJ A b L xs C F G0 Q pc1 lo1 st1 w out wF φ ls1 H locs cells slots h (q1.trans hlen) (q2 okS) hl1 I hc hs K
          · split at h
            · rename_i pc1 lo1 st1 w1 hq
              rw [pmKA_B hq] at hk
              obtain ⟨q1, q2, q3⟩ := pmB_keep hq
              have m2 := pm_mono n mid pc1 _ _ w1 _ wF h
              refine pm_soundB hD.1 hx hb hown hmb2 (fun ci q hq w hw => hts w (hcw ci q hq w hw)) (fun q => hnm (by simpa using q)) F hk hq hl I okS.1 okS.2 (by omega) (by omega) (fun φ1 ls1 H1 locs1 c1 s1 g1 g2 g3 g4 g5 => ?_)
              subst q1
              exact ih mid M' hG p e R s m args below meth c dC dI cI cZ cJ A b L xs C F G0 Q pc1 lo1 st1 w1 out wF φ1 ls1 H1 locs1 c1 s1 h hlen (q3 I.2.2.2.1 okS) g2 g3 (by omega) (by omega) (K.step g1 q2.1 g4 g5)
            · cases h
end PMZ
end
section
def RX0 : String := "TrackRoutes$Design"
def RX1 : String := "TrackRoutes$Front"
def RX2 : String := "TrackRoutes$Grid"
def RX3 : String := "TrackRoutes$Router"
def RX4 : String := "TrackRoutes$Stand"
def RX5 : String := "TrackRoutes"
def RX6 : String := "TrackRoutesModel"
def RJ6 : String := "java/lang/Integer"
def RJ9 : String := "java/lang/Math"
def RJ0 : String := "java/lang/String"
def RJ7 : String := "java/util/Arrays"
def RL : String := "TrackRoutesLaw"
def TX0 : u_T := fun k => match k with
  | 0 => ("TrackRoutes$Design", "nets", "I", false)
  | 1 => ("TrackRoutes$Design", "shielded", "I", false)
  | 2 => ("TrackRoutes$Design", "pins", "I", false)
  | 3 => ("TrackRoutes$Design", "netOfPin", "[I", true)
  | 4 => ("TrackRoutes$Design", "pinCount", "[I", true)
  | 5 => ("TrackRoutes$Design", "accessCount", "[I", true)
  | _ => ("TrackRoutes$Design", "accessPlaces", "[I", true)
def tyX0 : Nat → FieldType := fun k => match k with
  | 0 => .int
  | 1 => .int
  | 2 => .int
  | 3 => .array .int
  | 4 => .array .int
  | 5 => .array .int
  | _ => .array .int
def TX1 : u_T := fun k => match k with
  | 0 => ("TrackRoutes$Front", "cost", "[I", true)
  | 1 => ("TrackRoutes$Front", "heap", "[I", true)
  | 2 => ("TrackRoutes$Front", "spot", "[I", true)
  | _ => ("TrackRoutes$Front", "length", "I", false)
def tyX1 : Nat → FieldType := fun k => match k with
  | 0 => .array .int
  | 1 => .array .int
  | 2 => .array .int
  | _ => .int
def TX2 : u_T := fun k => match k with
  | 0 => ("TrackRoutes$Grid", "layers", "I", true)
  | 1 => ("TrackRoutes$Grid", "width", "I", true)
  | 2 => ("TrackRoutes$Grid", "height", "I", true)
  | 3 => ("TrackRoutes$Grid", "layerSize", "I", true)
  | 4 => ("TrackRoutes$Grid", "size", "I", true)
  | 5 => ("TrackRoutes$Grid", "layerOf", "[I", true)
  | 6 => ("TrackRoutes$Grid", "xOf", "[I", true)
  | 7 => ("TrackRoutes$Grid", "yOf", "[I", true)
  | 8 => ("TrackRoutes$Grid", "space", "[I", true)
  | 9 => ("TrackRoutes$Grid", "jog", "[I", true)
  | 10 => ("TrackRoutes$Grid", "via", "[I", true)
  | 11 => ("TrackRoutes$Grid", "barred", "[Z", true)
  | _ => ("TrackRoutes$Grid", "barredCount", "I", false)
def tyX2 : Nat → FieldType := fun k => match k with
  | 0 => .int
  | 1 => .int
  | 2 => .int
  | 3 => .int
  | 4 => .int
  | 5 => .array .int
  | 6 => .array .int
  | 7 => .array .int
  | 8 => .array .int
  | 9 => .array .int
  | 10 => .array .int
  | 11 => .array .boolean
  | _ => .int
def TX3 : u_T := fun k => match k with
  | 0 => ("TrackRoutes$Router", "grid", "LTrackRoutes$Grid;", true)
  | 1 => ("TrackRoutes$Router", "design", "LTrackRoutes$Design;", true)
  | 2 => ("TrackRoutes$Router", "pinStand", "LTrackRoutes$Stand;", true)
  | 3 => ("TrackRoutes$Router", "routeStand", "LTrackRoutes$Stand;", true)
  | 4 => ("TrackRoutes$Router", "front", "LTrackRoutes$Front;", true)
  | 5 => ("TrackRoutes$Router", "choice", "[I", true)
  | 6 => ("TrackRoutes$Router", "past", "[I", true)
  | 7 => ("TrackRoutes$Router", "vias", "[I", true)
  | 8 => ("TrackRoutes$Router", "way", "[I", true)
  | 9 => ("TrackRoutes$Router", "wayLength", "I", false)
  | 10 => ("TrackRoutes$Router", "closedNets", "I", false)
  | 11 => ("TrackRoutes$Router", "joinedNets", "I", false)
  | 12 => ("TrackRoutes$Router", "failedNets", "I", false)
  | 13 => ("TrackRoutes$Router", "roundsMade", "I", false)
  | 14 => ("TrackRoutes$Router", "freeWays", "I", false)
  | _ => ("TrackRoutes$Router", "tearingWays", "I", false)
def tyX3 : Nat → FieldType := fun k => match k with
  | 0 => .object "TrackRoutes$Grid"
  | 1 => .object "TrackRoutes$Design"
  | 2 => .object "TrackRoutes$Stand"
  | 3 => .object "TrackRoutes$Stand"
  | 4 => .object "TrackRoutes$Front"
  | 5 => .array .int
  | 6 => .array .int
  | 7 => .array .int
  | 8 => .array .int
  | 9 => .int
  | 10 => .int
  | 11 => .int
  | 12 => .int
  | 13 => .int
  | 14 => .int
  | _ => .int
def TX4 : u_T := fun k => match k with
  | 0 => ("TrackRoutes$Stand", "grid", "LTrackRoutes$Grid;", true)
  | 1 => ("TrackRoutes$Stand", "here", "[I", true)
  | 2 => ("TrackRoutes$Stand", "near", "[I", true)
  | _ => ("TrackRoutes$Stand", "far", "[I", true)
def tyX4 : Nat → FieldType := fun k => match k with
  | 0 => .object "TrackRoutes$Grid"
  | 1 => .array .int
  | 2 => .array .int
  | _ => .array .int
def TX5 : u_T := fun k => match k with
  | 0 => ("TrackRoutes", "grid", "LTrackRoutes$Grid;", true)
  | 1 => ("TrackRoutes", "design", "LTrackRoutes$Design;", true)
  | 2 => ("TrackRoutes", "router", "LTrackRoutes$Router;", true)
  | _ => ("TrackRoutes", "told", "Z", false)
def tyX5 : Nat → FieldType := fun k => match k with
  | 0 => .object "TrackRoutes$Grid"
  | 1 => .object "TrackRoutes$Design"
  | 2 => .object "TrackRoutes$Router"
  | _ => .boolean
def TX6 : u_T := fun k => match k with
  | 0 => ("TrackRoutesModel", "code", "I", false)
  | 1 => ("TrackRoutesModel", "layers", "I", true)
  | 2 => ("TrackRoutesModel", "width", "I", true)
  | 3 => ("TrackRoutesModel", "height", "I", true)
  | 4 => ("TrackRoutesModel", "spaces", "[I", true)
  | 5 => ("TrackRoutesModel", "jogs", "[I", true)
  | 6 => ("TrackRoutesModel", "vias", "[I", true)
  | 7 => ("TrackRoutesModel", "barred", "[Z", true)
  | 8 => ("TrackRoutesModel", "nets", "I", false)
  | 9 => ("TrackRoutesModel", "shielded", "[Z", true)
  | 10 => ("TrackRoutesModel", "pins", "I", false)
  | 11 => ("TrackRoutesModel", "netOf", "[I", true)
  | 12 => ("TrackRoutesModel", "ways", "[I", true)
  | 13 => ("TrackRoutesModel", "wayCounts", "[I", true)
  | 14 => ("TrackRoutesModel", "isRun", "Z", false)
  | 15 => ("TrackRoutesModel", "picked", "[I", true)
  | 16 => ("TrackRoutesModel", "closed", "[Z", true)
  | 17 => ("TrackRoutesModel", "isJoined", "[Z", true)
  | 18 => ("TrackRoutesModel", "why", "[I", true)
  | 19 => ("TrackRoutesModel", "past", "[I", true)
  | 20 => ("TrackRoutesModel", "routes", "[Z", true)
  | 21 => ("TrackRoutesModel", "ups", "[Z", true)
  | 22 => ("TrackRoutesModel", "rounds", "I", false)
  | 23 => ("TrackRoutesModel", "plainWays", "I", false)
  | 24 => ("TrackRoutesModel", "torn", "I", false)
  | 25 => ("TrackRoutesModel", "tree", "[Z", true)
  | 26 => ("TrackRoutesModel", "treeUps", "[Z", true)
  | 27 => ("TrackRoutesModel", "nearChosen", "[Z", true)
  | 28 => ("TrackRoutesModel", "nearRoute", "[Z", true)
  | 29 => ("TrackRoutesModel", "cost", "[I", true)
  | 30 => ("TrackRoutesModel", "loses", "[Z", true)
  | _ => ("TrackRoutesModel", "standing", "[Z", true)
def tyX6 : Nat → FieldType := fun k => match k with
  | 0 => .int
  | 1 => .int
  | 2 => .int
  | 3 => .int
  | 4 => .array .int
  | 5 => .array .int
  | 6 => .array .int
  | 7 => .array .boolean
  | 8 => .int
  | 9 => .array .boolean
  | 10 => .int
  | 11 => .array .int
  | 12 => .array .int
  | 13 => .array .int
  | 14 => .boolean
  | 15 => .array .int
  | 16 => .array .boolean
  | 17 => .array .boolean
  | 18 => .array .int
  | 19 => .array .int
  | 20 => .array .boolean
  | 21 => .array .boolean
  | 22 => .int
  | 23 => .int
  | 24 => .int
  | 25 => .array .boolean
  | 26 => .array .boolean
  | 27 => .array .boolean
  | 28 => .array .boolean
  | 29 => .array .int
  | 30 => .array .boolean
  | _ => .array .boolean
abbrev vwCl : List vw_C := [(RX0, TX0, 7), (RX1, TX1, 4), (RX2, TX2, 13), (RX3, TX3, 16), (RX4, TX4, 4), (RX5, TX5, 4), (RX6, TX6, 32)]
abbrev cJ6_bitCount_0f7a4 : ByteArray := prog_13_method_49_code
def yJ6_bitCount_0f7a4 : MethodName := ⟨RJ6, "bitCount", "(I)I"⟩
abbrev cJ7_fill_53178 : ByteArray := prog_18_method_103_code
def yJ7_fill_53178 : MethodName := ⟨RJ7, "fill", "([II)V"⟩
abbrev cX0_init : ByteArray := prog_2_method_1_code
def yX0_init : MethodName := ⟨RX0, "<init>", "()V"⟩
abbrev cX0_addNet : ByteArray := prog_2_method_2_code
def yX0_addNet : MethodName := ⟨RX0, "addNet", "()I"⟩
abbrev cX0_addPin : ByteArray := prog_2_method_3_code
def yX0_addPin : MethodName := ⟨RX0, "addPin", "(I)I"⟩
abbrev cX0_accessPlace : ByteArray := prog_2_method_4_code
def yX0_accessPlace : MethodName := ⟨RX0, "accessPlace", "(II)I"⟩
abbrev cX0_hasAccess : ByteArray := prog_2_method_5_code
def yX0_hasAccess : MethodName := ⟨RX0, "hasAccess", "(II)Z"⟩
abbrev cX0_addAccess : ByteArray := prog_2_method_6_code
def yX0_addAccess : MethodName := ⟨RX0, "addAccess", "(II)V"⟩
abbrev cX1_init : ByteArray := prog_3_method_1_code
def yX1_init : MethodName := ⟨RX1, "<init>", "(I)V"⟩
abbrev cX1_clear : ByteArray := prog_3_method_2_code
def yX1_clear : MethodName := ⟨RX1, "clear", "()V"⟩
abbrev cX1_offer : ByteArray := prog_3_method_3_code
def yX1_offer : MethodName := ⟨RX1, "offer", "(II)V"⟩
abbrev cX1_take : ByteArray := prog_3_method_4_code
def yX1_take : MethodName := ⟨RX1, "take", "()I"⟩
abbrev cX1_sink : ByteArray := prog_3_method_5_code
def yX1_sink : MethodName := ⟨RX1, "sink", "(I)V"⟩
abbrev cX1_isBefore : ByteArray := prog_3_method_6_code
def yX1_isBefore : MethodName := ⟨RX1, "isBefore", "(II)Z"⟩
abbrev cX1_put : ByteArray := prog_3_method_7_code
def yX1_put : MethodName := ⟨RX1, "put", "(II)V"⟩
abbrev cX2_init : ByteArray := prog_4_method_1_code
def yX2_init : MethodName := ⟨RX2, "<init>", "(III)V"⟩
abbrev cX2_numberPlaces : ByteArray := prog_4_method_2_code
def yX2_numberPlaces : MethodName := ⟨RX2, "numberPlaces", "()V"⟩
abbrev cX2_placeAt : ByteArray := prog_4_method_3_code
def yX2_placeAt : MethodName := ⟨RX2, "placeAt", "(III)I"⟩
abbrev cX2_close : ByteArray := prog_4_method_4_code
def yX2_close : MethodName := ⟨RX2, "close", "(I)Z"⟩
abbrev cX2_beside : ByteArray := prog_4_method_5_code
def yX2_beside : MethodName := ⟨RX2, "beside", "(II)I"⟩
abbrev cX2_stepCost : ByteArray := prog_4_method_6_code
def yX2_stepCost : MethodName := ⟨RX2, "stepCost", "(II)I"⟩
abbrev cX3_init : ByteArray := prog_5_method_1_code
def yX3_init : MethodName := ⟨RX3, "<init>", "(LTrackRoutes$Grid;LTrackRoutes$Design;)V"⟩
abbrev cX3_begin : ByteArray := prog_5_method_2_code
def yX3_begin : MethodName := ⟨RX3, "begin", "()V"⟩
abbrev cX3_choosePlaces : ByteArray := prog_5_method_3_code
def yX3_choosePlaces : MethodName := ⟨RX3, "choosePlaces", "()V"⟩
abbrev cX3_firstFit : ByteArray := prog_5_method_4_code
def yX3_firstFit : MethodName := ⟨RX3, "firstFit", "(II)I"⟩
abbrev cX3_makeRounds : ByteArray := prog_5_method_5_code
def yX3_makeRounds : MethodName := ⟨RX3, "makeRounds", "(I)V"⟩
abbrev cX3_waits : ByteArray := prog_5_method_6_code
def yX3_waits : MethodName := ⟨RX3, "waits", "(I)Z"⟩
abbrev cX3_someWait : ByteArray := prog_5_method_7_code
def yX3_someWait : MethodName := ⟨RX3, "someWait", "()Z"⟩
abbrev cX3_route : ByteArray := prog_5_method_8_code
def yX3_route : MethodName := ⟨RX3, "route", "(I)V"⟩
abbrev cX3_countWay : ByteArray := prog_5_method_9_code
def yX3_countWay : MethodName := ⟨RX3, "countWay", "(Z)V"⟩
abbrev cX3_placeOutside : ByteArray := prog_5_method_10_code
def yX3_placeOutside : MethodName := ⟨RX3, "placeOutside", "(I)I"⟩
abbrev cX3_findEnd : ByteArray := prog_5_method_11_code
def yX3_findEnd : MethodName := ⟨RX3, "findEnd", "(IZ)I"⟩
abbrev cX3_isGoal : ByteArray := prog_5_method_12_code
def yX3_isGoal : MethodName := ⟨RX3, "isGoal", "(II)Z"⟩
abbrev cX3_offerAround : ByteArray := prog_5_method_13_code
def yX3_offerAround : MethodName := ⟨RX3, "offerAround", "(IIZ)V"⟩
abbrev cX3_entryCost : ByteArray := prog_5_method_14_code
def yX3_entryCost : MethodName := ⟨RX3, "entryCost", "(IIZ)I"⟩
abbrev cX3_traceBack : ByteArray := prog_5_method_15_code
def yX3_traceBack : MethodName := ⟨RX3, "traceBack", "(IIZ)V"⟩
abbrev cX3_placeBefore : ByteArray := prog_5_method_16_code
def yX3_placeBefore : MethodName := ⟨RX3, "placeBefore", "(IIZ)I"⟩
abbrev cX3_tearUp : ByteArray := prog_5_method_17_code
def yX3_tearUp : MethodName := ⟨RX3, "tearUp", "(I)V"⟩
abbrev cX3_dropRoute : ByteArray := prog_5_method_18_code
def yX3_dropRoute : MethodName := ⟨RX3, "dropRoute", "(I)V"⟩
abbrev cX3_layWay : ByteArray := prog_5_method_19_code
def yX3_layWay : MethodName := ⟨RX3, "layWay", "(I)V"⟩
abbrev cX3_standingAt : ByteArray := prog_5_method_20_code
def yX3_standingAt : MethodName := ⟨RX3, "standingAt", "(II)I"⟩
abbrev cX3_clashingPlace : ByteArray := prog_5_method_21_code
def yX3_clashingPlace : MethodName := ⟨RX3, "clashingPlace", "(I)I"⟩
abbrev cX3_hasClash : ByteArray := prog_5_method_22_code
def yX3_hasClash : MethodName := ⟨RX3, "hasClash", "(I)Z"⟩
abbrev cX3_openNet : ByteArray := prog_5_method_23_code
def yX3_openNet : MethodName := ⟨RX3, "openNet", "(I)I"⟩
abbrev cX3_whyOpen : ByteArray := prog_5_method_24_code
def yX3_whyOpen : MethodName := ⟨RX3, "whyOpen", "(I)I"⟩
abbrev cX4_init : ByteArray := prog_6_method_1_code
def yX4_init : MethodName := ⟨RX4, "<init>", "(LTrackRoutes$Grid;)V"⟩
abbrev cX4_clear : ByteArray := prog_6_method_2_code
def yX4_clear : MethodName := ⟨RX4, "clear", "()V"⟩
abbrev cX4_add : ByteArray := prog_6_method_3_code
def yX4_add : MethodName := ⟨RX4, "add", "(II)V"⟩
abbrev cX4_mark : ByteArray := prog_6_method_4_code
def yX4_mark : MethodName := ⟨RX4, "mark", "([IIII)V"⟩
abbrev cX4_drop : ByteArray := prog_6_method_5_code
def yX4_drop : MethodName := ⟨RX4, "drop", "(I)V"⟩
abbrev cX4_clashing : ByteArray := prog_6_method_6_code
def yX4_clashing : MethodName := ⟨RX4, "clashing", "(III)I"⟩
abbrev cX5_init : ByteArray := prog_1_method_1_code
def yX5_init : MethodName := ⟨RX5, "<init>", "(IJJ)V"⟩
abbrev cX5_rule : ByteArray := prog_1_method_2_code
def yX5_rule : MethodName := ⟨RX5, "rule", "(IIJ)Z"⟩
abbrev cX5_net : ByteArray := prog_1_method_3_code
def yX5_net : MethodName := ⟨RX5, "net", "()I"⟩
abbrev cX5_pin : ByteArray := prog_1_method_4_code
def yX5_pin : MethodName := ⟨RX5, "pin", "(I)I"⟩
abbrev cX5_access : ByteArray := prog_1_method_5_code
def yX5_access : MethodName := ⟨RX5, "access", "(IIJJ)Z"⟩
abbrev cX5_bar : ByteArray := prog_1_method_6_code
def yX5_bar : MethodName := ⟨RX5, "bar", "(IJJJJ)Z"⟩
abbrev cX5_shield : ByteArray := prog_1_method_7_code
def yX5_shield : MethodName := ⟨RX5, "shield", "(I)Z"⟩
abbrev cX5_run : ByteArray := prog_1_method_8_code
def yX5_run : MethodName := ⟨RX5, "run", "(I)I"⟩
abbrev cX5_piece : ByteArray := prog_1_method_9_code
def yX5_piece : MethodName := ⟨RX5, "piece", "(III)I"⟩
abbrev cX5_chosen : ByteArray := prog_1_method_10_code
def yX5_chosen : MethodName := ⟨RX5, "chosen", "(I)I"⟩
abbrev cX5_open : ByteArray := prog_1_method_11_code
def yX5_open : MethodName := ⟨RX5, "open", "(II)I"⟩
abbrev cX5_joined : ByteArray := prog_1_method_12_code
def yX5_joined : MethodName := ⟨RX5, "joined", "(I)Z"⟩
abbrev cX5_broken : ByteArray := prog_1_method_13_code
def yX5_broken : MethodName := ⟨RX5, "broken", "(I)I"⟩
abbrev cX5_history : ByteArray := prog_1_method_14_code
def yX5_history : MethodName := ⟨RX5, "history", "(IJJ)I"⟩
abbrev cX5_count : ByteArray := prog_1_method_15_code
def yX5_count : MethodName := ⟨RX5, "count", "(I)I"⟩
abbrev cX5_rulesOf : ByteArray := prog_1_method_16_code
def yX5_rulesOf : MethodName := ⟨RX5, "rulesOf", "(I)[I"⟩
abbrev cX5_needLayer : ByteArray := prog_1_method_17_code
def yX5_needLayer : MethodName := ⟨RX5, "needLayer", "(I)V"⟩
abbrev cX5_needPlace : ByteArray := prog_1_method_18_code
def yX5_needPlace : MethodName := ⟨RX5, "needPlace", "(IJJ)V"⟩
abbrev cX5_needNet : ByteArray := prog_1_method_19_code
def yX5_needNet : MethodName := ⟨RX5, "needNet", "(I)V"⟩
abbrev cX5_needPin : ByteArray := prog_1_method_20_code
def yX5_needPin : MethodName := ⟨RX5, "needPin", "(I)V"⟩
abbrev cX5_needWhat : ByteArray := prog_1_method_21_code
def yX5_needWhat : MethodName := ⟨RX5, "needWhat", "(II)V"⟩
abbrev cX5_needNotBelowZero : ByteArray := prog_1_method_22_code
def yX5_needNotBelowZero : MethodName := ⟨RX5, "needNotBelowZero", "(I)V"⟩
abbrev cX5_needRun : ByteArray := prog_1_method_23_code
def yX5_needRun : MethodName := ⟨RX5, "needRun", "()V"⟩
abbrev cX5_isIn : ByteArray := prog_1_method_24_code
def yX5_isIn : MethodName := ⟨RX5, "isIn", "(II)Z"⟩
abbrev cX6_init : ByteArray := prog_8_method_1_code
def yX6_init : MethodName := ⟨RX6, "<init>", "(IJJ)V"⟩
abbrev cX6_thrown : ByteArray := prog_8_method_2_code
def yX6_thrown : MethodName := ⟨RX6, "thrown", "()I"⟩
abbrev cX6_clip : ByteArray := prog_8_method_3_code
def yX6_clip : MethodName := ⟨RX6, "clip", "(JI)I"⟩
abbrev cX6_isIn : ByteArray := prog_8_method_4_code
def yX6_isIn : MethodName := ⟨RX6, "isIn", "(JJJ)Z"⟩
abbrev cX6_refuses : ByteArray := prog_8_method_5_code
def yX6_refuses : MethodName := ⟨RX6, "refuses", "(I)Z"⟩
abbrev cX6_all : ByteArray := prog_8_method_6_code
def yX6_all : MethodName := ⟨RX6, "all", "()I"⟩
abbrev cX6_placeOf : ByteArray := prog_8_method_7_code
def yX6_placeOf : MethodName := ⟨RX6, "placeOf", "(IJJ)I"⟩
abbrev cX6_layerOf : ByteArray := prog_8_method_8_code
def yX6_layerOf : MethodName := ⟨RX6, "layerOf", "(I)I"⟩
abbrev cX6_xOf : ByteArray := prog_8_method_9_code
def yX6_xOf : MethodName := ⟨RX6, "xOf", "(I)I"⟩
abbrev cX6_yOf : ByteArray := prog_8_method_10_code
def yX6_yOf : MethodName := ⟨RX6, "yOf", "(I)I"⟩
abbrev cX6_rule : ByteArray := prog_8_method_11_code
def yX6_rule : MethodName := ⟨RX6, "rule", "(IIJ)Z"⟩
abbrev cX6_net : ByteArray := prog_8_method_12_code
def yX6_net : MethodName := ⟨RX6, "net", "()I"⟩
abbrev cX6_isNet : ByteArray := prog_8_method_13_code
def yX6_isNet : MethodName := ⟨RX6, "isNet", "(I)Z"⟩
abbrev cX6_isPin : ByteArray := prog_8_method_14_code
def yX6_isPin : MethodName := ⟨RX6, "isPin", "(I)Z"⟩
abbrev cX6_pin : ByteArray := prog_8_method_15_code
def yX6_pin : MethodName := ⟨RX6, "pin", "(I)I"⟩
abbrev cX6_access : ByteArray := prog_8_method_16_code
def yX6_access : MethodName := ⟨RX6, "access", "(IIJJ)Z"⟩
abbrev cX6_bar : ByteArray := prog_8_method_17_code
def yX6_bar : MethodName := ⟨RX6, "bar", "(IJJJJ)Z"⟩
abbrev cX6_shield : ByteArray := prog_8_method_18_code
def yX6_shield : MethodName := ⟨RX6, "shield", "(I)Z"⟩
abbrev cX6_apart : ByteArray := prog_8_method_19_code
def yX6_apart : MethodName := ⟨RX6, "apart", "(II)I"⟩
abbrev cX6_clashes : ByteArray := prog_8_method_20_code
def yX6_clashes : MethodName := ⟨RX6, "clashes", "(IIII)Z"⟩
abbrev cX6_placeOfPin : ByteArray := prog_8_method_21_code
def yX6_placeOfPin : MethodName := ⟨RX6, "placeOfPin", "(I)I"⟩
abbrev cX6_mayBe : ByteArray := prog_8_method_22_code
def yX6_mayBe : MethodName := ⟨RX6, "mayBe", "(II)Z"⟩
abbrev cX6_pick : ByteArray := prog_8_method_23_code
def yX6_pick : MethodName := ⟨RX6, "pick", "()V"⟩
abbrev cX6_mark : ByteArray := prog_8_method_24_code
def yX6_mark : MethodName := ⟨RX6, "mark", "([ZIII)V"⟩
abbrev cX6_markAll : ByteArray := prog_8_method_25_code
def yX6_markAll : MethodName := ⟨RX6, "markAll", "(I)V"⟩
abbrev cX6_beside : ByteArray := prog_8_method_26_code
def yX6_beside : MethodName := ⟨RX6, "beside", "(II)I"⟩
abbrev cX6_stepCost : ByteArray := prog_8_method_27_code
def yX6_stepCost : MethodName := ⟨RX6, "stepCost", "(II)I"⟩
abbrev cX6_isOpen : ByteArray := prog_8_method_28_code
def yX6_isOpen : MethodName := ⟨RX6, "isOpen", "(IZ)Z"⟩
abbrev cX6_extra : ByteArray := prog_8_method_29_code
def yX6_extra : MethodName := ⟨RX6, "extra", "(I)I"⟩
abbrev cX6_lower : ByteArray := prog_8_method_30_code
def yX6_lower : MethodName := ⟨RX6, "lower", "(Z)V"⟩
abbrev cX6_goal : ByteArray := prog_8_method_31_code
def yX6_goal : MethodName := ⟨RX6, "goal", "(I)I"⟩
abbrev cX6_isDone : ByteArray := prog_8_method_32_code
def yX6_isDone : MethodName := ⟨RX6, "isDone", "(I)Z"⟩
abbrev cX6_backFrom : ByteArray := prog_8_method_33_code
def yX6_backFrom : MethodName := ⟨RX6, "backFrom", "(I)I"⟩
abbrev cX6_tearAt : ByteArray := prog_8_method_34_code
def yX6_tearAt : MethodName := ⟨RX6, "tearAt", "(II)V"⟩
abbrev cX6_take : ByteArray := prog_8_method_35_code
def yX6_take : MethodName := ⟨RX6, "take", "(II)V"⟩
abbrev cX6_dropRoute : ByteArray := prog_8_method_36_code
def yX6_dropRoute : MethodName := ⟨RX6, "dropRoute", "(I)V"⟩
abbrev cX6_routeNet : ByteArray := prog_8_method_37_code
def yX6_routeNet : MethodName := ⟨RX6, "routeNet", "(I)V"⟩
abbrev cX6_run : ByteArray := prog_8_method_38_code
def yX6_run : MethodName := ⟨RX6, "run", "(I)I"⟩
abbrev cX6_isLeft : ByteArray := prog_8_method_39_code
def yX6_isLeft : MethodName := ⟨RX6, "isLeft", "()Z"⟩
abbrev cX6_stands : ByteArray := prog_8_method_40_code
def yX6_stands : MethodName := ⟨RX6, "stands", "(II)Z"⟩
abbrev cX6_piece : ByteArray := prog_8_method_41_code
def yX6_piece : MethodName := ⟨RX6, "piece", "(III)I"⟩
abbrev cX6_chosen : ByteArray := prog_8_method_42_code
def yX6_chosen : MethodName := ⟨RX6, "chosen", "(I)I"⟩
abbrev cX6_open : ByteArray := prog_8_method_43_code
def yX6_open : MethodName := ⟨RX6, "open", "(II)I"⟩
abbrev cX6_joined : ByteArray := prog_8_method_44_code
def yX6_joined : MethodName := ⟨RX6, "joined", "(I)Z"⟩
abbrev cX6_findStanding : ByteArray := prog_8_method_45_code
def yX6_findStanding : MethodName := ⟨RX6, "findStanding", "()V"⟩
abbrev cX6_isBroken : ByteArray := prog_8_method_46_code
def yX6_isBroken : MethodName := ⟨RX6, "isBroken", "(I)Z"⟩
abbrev cX6_broken : ByteArray := prog_8_method_47_code
def yX6_broken : MethodName := ⟨RX6, "broken", "(I)I"⟩
abbrev cX6_history : ByteArray := prog_8_method_48_code
def yX6_history : MethodName := ⟨RX6, "history", "(IJJ)I"⟩
abbrev cX6_count : ByteArray := prog_8_method_49_code
def yX6_count : MethodName := ⟨RX6, "count", "(I)I"⟩
abbrev cL_cell : ByteArray := method_2_code
def yL_cell : MethodName := ⟨RL, "cell", "([II)I"⟩
abbrev cL_rule : ByteArray := method_3_code
def yL_rule : MethodName := ⟨RL, "rule", "(LTrackRoutes;IIJ[J)I"⟩
abbrev cL_net : ByteArray := method_4_code
def yL_net : MethodName := ⟨RL, "net", "(LTrackRoutes;[J)I"⟩
abbrev cL_pin : ByteArray := method_5_code
def yL_pin : MethodName := ⟨RL, "pin", "(LTrackRoutes;I[J)I"⟩
abbrev cL_access : ByteArray := method_6_code
def yL_access : MethodName := ⟨RL, "access", "(LTrackRoutes;IIJJ[J)I"⟩
abbrev cL_bar : ByteArray := method_7_code
def yL_bar : MethodName := ⟨RL, "bar", "(LTrackRoutes;IJJJJ[J)I"⟩
abbrev cL_shield : ByteArray := method_8_code
def yL_shield : MethodName := ⟨RL, "shield", "(LTrackRoutes;I[J)I"⟩
abbrev cL_run : ByteArray := method_9_code
def yL_run : MethodName := ⟨RL, "run", "(LTrackRoutes;I[J)I"⟩
abbrev cL_piece : ByteArray := method_10_code
def yL_piece : MethodName := ⟨RL, "piece", "(LTrackRoutes;III[J)I"⟩
abbrev cL_chosen : ByteArray := method_11_code
def yL_chosen : MethodName := ⟨RL, "chosen", "(LTrackRoutes;I[J)I"⟩
abbrev cL_open : ByteArray := method_12_code
def yL_open : MethodName := ⟨RL, "open", "(LTrackRoutes;II[J)I"⟩
abbrev cL_joined : ByteArray := method_13_code
def yL_joined : MethodName := ⟨RL, "joined", "(LTrackRoutes;I[J)I"⟩
abbrev cL_broken : ByteArray := method_14_code
def yL_broken : MethodName := ⟨RL, "broken", "(LTrackRoutes;I[J)I"⟩
abbrev cL_history : ByteArray := method_15_code
def yL_history : MethodName := ⟨RL, "history", "(LTrackRoutes;IJJ[J)I"⟩
abbrev cL_count : ByteArray := method_16_code
def yL_count : MethodName := ⟨RL, "count", "(LTrackRoutes;I[J)I"⟩
abbrev cL_law : ByteArray := code
def yL_law : MethodName := ⟨RL, "law", "([I)Z"⟩
def pgTy (ci k : Nat) : FieldType := match ci with
  | 0 => tyX0 k
  | 1 => tyX1 k
  | 2 => tyX2 k
  | 3 => tyX3 k
  | 4 => tyX4 k
  | 5 => tyX5 k
  | _ => tyX6 k
end
section
def pcJ6_bitCount_0f7a4_0 : List pmE := [(0, .iload_n 0, 0, 0, 0), (1, .iload_n 0, 0, 0, 0), (2, .iconst 1, 0, 0, 1), (3, .iushr, 0, 0, 0), (4, .ldc_w 265, 0, 0, 1431655765), (7, .iand, 0, 0, 0), (8, .isub, 0, 0, 0), (9, .istore_n 0, 0, 0, 0), (10, .iload_n 0, 0, 0, 0), (11, .ldc_w 266, 0, 0, 858993459), (14, .iand, 0, 0, 0), (15, .iload_n 0, 0, 0, 0), (16, .iconst 2, 0, 0, 2), (17, .iushr, 0, 0, 0), (18, .ldc_w 266, 0, 0, 858993459), (21, .iand, 0, 0, 0), (22, .iadd, 0, 0, 0), (23, .istore_n 0, 0, 0, 0), (24, .iload_n 0, 0, 0, 0), (25, .iload_n 0, 0, 0, 0), (26, .iconst 4, 0, 0, 4), (27, .iushr, 0, 0, 0), (28, .iadd, 0, 0, 0), (29, .ldc_w 267, 0, 0, 252645135)]
def pcJ6_bitCount_0f7a4_1 : List pmE := [(32, .iand, 0, 0, 0), (33, .istore_n 0, 0, 0, 0), (34, .iload_n 0, 0, 0, 0), (35, .iload_n 0, 0, 0, 0), (36, .bipush 8, 0, 0, 8), (38, .iushr, 0, 0, 0), (39, .iadd, 0, 0, 0), (40, .istore_n 0, 0, 0, 0), (41, .iload_n 0, 0, 0, 0), (42, .iload_n 0, 0, 0, 0), (43, .bipush 16, 0, 0, 16), (45, .iushr, 0, 0, 0), (46, .iadd, 0, 0, 0), (47, .istore_n 0, 0, 0, 0), (48, .iload_n 0, 0, 0, 0), (49, .bipush 63, 0, 0, 63), (51, .iand, 0, 0, 0), (52, .ireturn, 0, 0, 0)]
def pcJ6_bitCount_0f7a4 : List (List pmE) := [pcJ6_bitCount_0f7a4_0, pcJ6_bitCount_0f7a4_1]
def pcJ7_fill_53178_0 : List pmE := [(0, .iconst 0, 0, 0, 0), (1, .istore_n 2, 2, 0, 0), (2, .aload_n 0, 0, 0, 0), (3, .arraylength, 0, 0, 0), (4, .istore_n 3, 3, 0, 0), (5, .iload_n 2, 2, 0, 0), (6, .iload_n 3, 3, 0, 0), (7, .if_icmp .ge 13, 20, 0, 0), (10, .aload_n 0, 0, 0, 0), (11, .iload_n 2, 2, 0, 0), (12, .iload_n 1, 1, 0, 0), (13, .iastore, 0, 0, 0), (14, .iinc 2 1, 2, 0, 1), (17, .goto (-12), 5, 0, 0), (20, .return_, 0, 0, 0)]
def pcJ7_fill_53178 : List (List pmE) := [pcJ7_fill_53178_0]
def pcX0_init_0 : List pmE := [(0, .aload_n 0, 0, 0, 0), (1, .nop, 0, 0, 0), (4, .aload_n 0, 0, 0, 0), (5, .bipush 40, 0, 0, 40), (7, .newarray .int, 0, 0, 0), (9, .putfield 9, 0, 3, 0), (12, .aload_n 0, 0, 0, 0), (13, .bipush 16, 0, 0, 16), (15, .newarray .int, 0, 0, 0), (17, .putfield 15, 0, 4, 0), (20, .aload_n 0, 0, 0, 0), (21, .bipush 40, 0, 0, 40), (23, .newarray .int, 0, 0, 0), (25, .putfield 18, 0, 5, 0), (28, .aload_n 0, 0, 0, 0), (29, .sipush 160, 0, 0, 160)]
def pcX0_init_1 : List pmE := [(32, .newarray .int, 0, 0, 0), (34, .putfield 21, 0, 6, 0), (37, .return_, 0, 0, 0)]
def pcX0_init : List (List pmE) := [pcX0_init_0, pcX0_init_1]
def pcX0_addNet_0 : List pmE := [(0, .aload_n 0, 0, 0, 0), (1, .dup, 0, 0, 0), (2, .getfield 24, 0, 0, 0), (5, .iconst 1, 0, 0, 1), (6, .iadd, 0, 0, 0), (7, .putfield 24, 0, 0, 0), (10, .aload_n 0, 0, 0, 0), (11, .getfield 24, 0, 0, 0), (14, .iconst 1, 0, 0, 1), (15, .isub, 0, 0, 0), (16, .ireturn, 0, 0, 0)]
def pcX0_addNet : List (List pmE) := [pcX0_addNet_0]
def pcX0_addPin_0 : List pmE := [(0, .aload_n 0, 0, 0, 0), (1, .getfield 9, 0, 3, 0), (4, .aload_n 0, 0, 0, 0), (5, .getfield 28, 0, 2, 0), (8, .iload_n 1, 1, 0, 0), (9, .iastore, 0, 0, 0), (10, .aload_n 0, 0, 0, 0), (11, .getfield 15, 0, 4, 0), (14, .iload_n 1, 1, 0, 0), (15, .dup2, 0, 0, 0), (16, .iaload, 0, 0, 0), (17, .iconst 1, 0, 0, 1), (18, .iadd, 0, 0, 0), (19, .iastore, 0, 0, 0), (20, .aload_n 0, 0, 0, 0), (21, .dup, 0, 0, 0), (22, .getfield 28, 0, 2, 0), (25, .iconst 1, 0, 0, 1), (26, .iadd, 0, 0, 0), (27, .putfield 28, 0, 2, 0), (30, .aload_n 0, 0, 0, 0), (31, .getfield 28, 0, 2, 0)]
def pcX0_addPin_1 : List pmE := [(34, .iconst 1, 0, 0, 1), (35, .isub, 0, 0, 0), (36, .ireturn, 0, 0, 0)]
def pcX0_addPin : List (List pmE) := [pcX0_addPin_0, pcX0_addPin_1]
def pcX0_accessPlace_0 : List pmE := [(0, .aload_n 0, 0, 0, 0), (1, .getfield 21, 0, 6, 0), (4, .iload_n 1, 1, 0, 0), (5, .iconst 4, 0, 0, 4), (6, .imul, 0, 0, 0), (7, .iload_n 2, 2, 0, 0), (8, .iadd, 0, 0, 0), (9, .iaload, 0, 0, 0), (10, .ireturn, 0, 0, 0)]
def pcX0_accessPlace : List (List pmE) := [pcX0_accessPlace_0]
def pcX0_hasAccess_0 : List pmE := [(0, .iconst 0, 0, 0, 0), (1, .istore_n 3, 3, 0, 0), (2, .iload_n 3, 3, 0, 0), (3, .aload_n 0, 0, 0, 0), (4, .getfield 18, 0, 5, 0), (7, .iload_n 1, 1, 0, 0), (8, .iaload, 0, 0, 0), (9, .if_icmp .ge 21, 30, 0, 0), (12, .aload_n 0, 0, 0, 0), (13, .iload_n 1, 1, 0, 0), (14, .iload_n 3, 3, 0, 0), (15, .invokevirtual 31, 5, 3, 0), (18, .iload_n 2, 2, 0, 0), (19, .if_icmp .ne 5, 24, 0, 0), (22, .iconst 1, 0, 0, 1), (23, .ireturn, 0, 1, 0), (24, .iinc 3 1, 3, 0, 1), (27, .goto (-25), 2, 0, 0), (30, .iconst 0, 0, 0, 0), (31, .ireturn, 0, 1, 0)]
def pcX0_hasAccess : List (List pmE) := [pcX0_hasAccess_0]
def pcX0_addAccess_0 : List pmE := [(0, .aload_n 0, 0, 0, 0), (1, .getfield 21, 0, 6, 0), (4, .iload_n 1, 1, 0, 0), (5, .iconst 4, 0, 0, 4), (6, .imul, 0, 0, 0), (7, .aload_n 0, 0, 0, 0), (8, .getfield 18, 0, 5, 0), (11, .iload_n 1, 1, 0, 0), (12, .iaload, 0, 0, 0), (13, .iadd, 0, 0, 0), (14, .iload_n 2, 2, 0, 0), (15, .iastore, 0, 0, 0), (16, .aload_n 0, 0, 0, 0), (17, .getfield 18, 0, 5, 0), (20, .iload_n 1, 1, 0, 0), (21, .dup2, 0, 0, 0), (22, .iaload, 0, 0, 0), (23, .iconst 1, 0, 0, 1), (24, .iadd, 0, 0, 0), (25, .iastore, 0, 0, 0), (26, .return_, 0, 0, 0)]
def pcX0_addAccess : List (List pmE) := [pcX0_addAccess_0]
def pcX1_init_0 : List pmE := [(0, .aload_n 0, 0, 0, 0), (1, .nop, 0, 0, 0), (4, .aload_n 0, 0, 0, 0), (5, .iload_n 1, 1, 0, 0), (6, .newarray .int, 0, 0, 0), (8, .putfield 9, 1, 0, 0), (11, .aload_n 0, 0, 0, 0), (12, .iload_n 1, 1, 0, 0), (13, .newarray .int, 0, 0, 0), (15, .putfield 15, 1, 1, 0), (18, .aload_n 0, 0, 0, 0), (19, .iload_n 1, 1, 0, 0), (20, .newarray .int, 0, 0, 0), (22, .putfield 18, 1, 2, 0), (25, .return_, 0, 0, 0)]
def pcX1_init : List (List pmE) := [pcX1_init_0]
def pcX1_clear_0 : List pmE := [(0, .aload_n 0, 0, 0, 0), (1, .getfield 9, 1, 0, 0), (4, .ldc 21, 0, 0, 1000000000), (6, .invokestatic 22, 1, 2, 0), (9, .aload_n 0, 0, 0, 0), (10, .getfield 18, 1, 2, 0), (13, .iconst (-1), 0, 0, -1), (14, .invokestatic 22, 1, 2, 0), (17, .aload_n 0, 0, 0, 0), (18, .iconst 0, 0, 0, 0), (19, .putfield 28, 1, 3, 0), (22, .return_, 0, 0, 0)]
def pcX1_clear : List (List pmE) := [pcX1_clear_0]
def pcX1_offer_0 : List pmE := [(0, .iload_n 2, 2, 0, 0), (1, .aload_n 0, 0, 0, 0), (2, .getfield 9, 1, 0, 0), (5, .iload_n 1, 1, 0, 0), (6, .iaload, 0, 0, 0), (7, .if_icmp .lt 4, 11, 0, 0), (10, .return_, 0, 0, 0), (11, .aload_n 0, 0, 0, 0), (12, .getfield 18, 1, 2, 0), (15, .iload_n 1, 1, 0, 0), (16, .iaload, 0, 0, 0), (17, .iconst (-1), 0, 0, -1), (18, .if_icmp .ne 10, 28, 0, 0), (21, .aload_n 0, 0, 0, 0), (22, .getfield 28, 1, 3, 0), (25, .goto 9, 34, 0, 0), (28, .aload_n 0, 0, 0, 0), (29, .getfield 18, 1, 2, 0)]
def pcX1_offer_1 : List pmE := [(32, .iload_n 1, 1, 0, 0), (33, .iaload, 0, 0, 0), (34, .istore_n 3, 3, 0, 0), (35, .iload_n 3, 3, 0, 0), (36, .aload_n 0, 0, 0, 0), (37, .getfield 15, 1, 1, 0), (40, .arraylength, 0, 0, 0), (41, .if_icmp .lt 4, 45, 0, 0), (44, .return_, 0, 0, 0), (45, .iload_n 3, 3, 0, 0), (46, .aload_n 0, 0, 0, 0), (47, .getfield 28, 1, 3, 0), (50, .if_icmp .ne 13, 63, 0, 0), (53, .aload_n 0, 0, 0, 0), (54, .dup, 0, 0, 0), (55, .getfield 28, 1, 3, 0), (58, .iconst 1, 0, 0, 1), (59, .iadd, 0, 0, 0), (60, .putfield 28, 1, 3, 0), (63, .aload_n 0, 0, 0, 0)]
def pcX1_offer_2 : List pmE := [(64, .getfield 9, 1, 0, 0), (67, .iload_n 1, 1, 0, 0), (68, .iload_n 2, 2, 0, 0), (69, .iastore, 0, 0, 0), (70, .iload_n 3, 3, 0, 0), (71, .ifCond .le 45, 116, 0, 0), (74, .aload_n 0, 0, 0, 0), (75, .iload_n 1, 1, 0, 0), (76, .aload_n 0, 0, 0, 0), (77, .getfield 15, 1, 1, 0), (80, .iload_n 3, 3, 0, 0), (81, .iconst 1, 0, 0, 1), (82, .isub, 0, 0, 0), (83, .iconst 2, 0, 0, 2), (84, .idiv, 0, 0, 0), (85, .iaload, 0, 0, 0), (86, .invokevirtual 32, 13, 3, 0), (89, .ifCond .eq 27, 116, 0, 0), (92, .aload_n 0, 0, 0, 0), (93, .aload_n 0, 0, 0, 0), (94, .getfield 15, 1, 1, 0)]
def pcX1_offer_3 : List pmE := [(97, .iload_n 3, 3, 0, 0), (98, .iconst 1, 0, 0, 1), (99, .isub, 0, 0, 0), (100, .iconst 2, 0, 0, 2), (101, .idiv, 0, 0, 0), (102, .iaload, 0, 0, 0), (103, .iload_n 3, 3, 0, 0), (104, .invokevirtual 36, 14, 3, 0), (107, .iload_n 3, 3, 0, 0), (108, .iconst 1, 0, 0, 1), (109, .isub, 0, 0, 0), (110, .iconst 2, 0, 0, 2), (111, .idiv, 0, 0, 0), (112, .istore_n 3, 3, 0, 0), (113, .goto (-43), 70, 0, 0), (116, .aload_n 0, 0, 0, 0), (117, .iload_n 1, 1, 0, 0), (118, .iload_n 3, 3, 0, 0), (119, .invokevirtual 36, 14, 3, 0), (122, .return_, 0, 0, 0)]
def pcX1_offer : List (List pmE) := [pcX1_offer_0, pcX1_offer_1, pcX1_offer_2, pcX1_offer_3]
def pcX1_take_0 : List pmE := [(0, .aload_n 0, 0, 0, 0), (1, .getfield 28, 1, 3, 0), (4, .ifCond .ne 5, 9, 0, 0), (7, .iconst (-1), 0, 0, -1), (8, .ireturn, 0, 0, 0), (9, .aload_n 0, 0, 0, 0), (10, .getfield 15, 1, 1, 0), (13, .iconst 0, 0, 0, 0), (14, .iaload, 0, 0, 0), (15, .istore_n 1, 1, 0, 0), (16, .aload_n 0, 0, 0, 0), (17, .getfield 18, 1, 2, 0), (20, .iload_n 1, 1, 0, 0), (21, .iconst (-1), 0, 0, -1), (22, .iastore, 0, 0, 0), (23, .aload_n 0, 0, 0, 0), (24, .dup, 0, 0, 0), (25, .getfield 28, 1, 3, 0), (28, .iconst 1, 0, 0, 1), (29, .isub, 0, 0, 0), (30, .putfield 28, 1, 3, 0)]
def pcX1_take_1 : List pmE := [(33, .aload_n 0, 0, 0, 0), (34, .getfield 28, 1, 3, 0), (37, .ifCond .le 16, 53, 0, 0), (40, .aload_n 0, 0, 0, 0), (41, .aload_n 0, 0, 0, 0), (42, .getfield 15, 1, 1, 0), (45, .aload_n 0, 0, 0, 0), (46, .getfield 28, 1, 3, 0), (49, .iaload, 0, 0, 0), (50, .invokevirtual 40, 12, 2, 0), (53, .iload_n 1, 1, 0, 0), (54, .ireturn, 0, 0, 0)]
def pcX1_take : List (List pmE) := [pcX1_take_0, pcX1_take_1]
def pcX1_sink_0 : List pmE := [(0, .iconst 0, 0, 0, 0), (1, .istore_n 2, 2, 0, 0), (2, .iconst 2, 0, 0, 2), (3, .iload_n 2, 2, 0, 0), (4, .imul, 0, 0, 0), (5, .iconst 1, 0, 0, 1), (6, .iadd, 0, 0, 0), (7, .aload_n 0, 0, 0, 0), (8, .getfield 28, 1, 3, 0), (11, .if_icmp .ge 76, 87, 0, 0), (14, .iconst 2, 0, 0, 2), (15, .iload_n 2, 2, 0, 0), (16, .imul, 0, 0, 0), (17, .iconst 1, 0, 0, 1), (18, .iadd, 0, 0, 0), (19, .istore_n 3, 3, 0, 0), (20, .iload_n 3, 3, 0, 0), (21, .iconst 1, 0, 0, 1), (22, .iadd, 0, 0, 0), (23, .aload_n 0, 0, 0, 0), (24, .getfield 28, 1, 3, 0), (27, .if_icmp .ge 27, 54, 0, 0), (30, .aload_n 0, 0, 0, 0), (31, .aload_n 0, 0, 0, 0)]
def pcX1_sink_1 : List pmE := [(32, .getfield 15, 1, 1, 0), (35, .iload_n 3, 3, 0, 0), (36, .iconst 1, 0, 0, 1), (37, .iadd, 0, 0, 0), (38, .iaload, 0, 0, 0), (39, .aload_n 0, 0, 0, 0), (40, .getfield 15, 1, 1, 0), (43, .iload_n 3, 3, 0, 0), (44, .iaload, 0, 0, 0), (45, .invokevirtual 32, 13, 3, 0), (48, .ifCond .eq 6, 54, 0, 0), (51, .iinc 3 1, 3, 0, 1), (54, .aload_n 0, 0, 0, 0), (55, .aload_n 0, 0, 0, 0), (56, .getfield 15, 1, 1, 0), (59, .iload_n 3, 3, 0, 0), (60, .iaload, 0, 0, 0), (61, .iload_n 1, 1, 0, 0), (62, .invokevirtual 32, 13, 3, 0)]
def pcX1_sink_2 : List pmE := [(65, .ifCond .ne 6, 71, 0, 0), (68, .goto 19, 87, 0, 0), (71, .aload_n 0, 0, 0, 0), (72, .aload_n 0, 0, 0, 0), (73, .getfield 15, 1, 1, 0), (76, .iload_n 3, 3, 0, 0), (77, .iaload, 0, 0, 0), (78, .iload_n 2, 2, 0, 0), (79, .invokevirtual 36, 14, 3, 0), (82, .iload_n 3, 3, 0, 0), (83, .istore_n 2, 2, 0, 0), (84, .goto (-82), 2, 0, 0), (87, .aload_n 0, 0, 0, 0), (88, .iload_n 1, 1, 0, 0), (89, .iload_n 2, 2, 0, 0), (90, .invokevirtual 36, 14, 3, 0), (93, .return_, 0, 0, 0)]
def pcX1_sink : List (List pmE) := [pcX1_sink_0, pcX1_sink_1, pcX1_sink_2]
def pcX1_isBefore_0 : List pmE := [(0, .aload_n 0, 0, 0, 0), (1, .getfield 9, 1, 0, 0), (4, .iload_n 1, 1, 0, 0), (5, .iaload, 0, 0, 0), (6, .aload_n 0, 0, 0, 0), (7, .getfield 9, 1, 0, 0), (10, .iload_n 2, 2, 0, 0), (11, .iaload, 0, 0, 0), (12, .if_icmp .eq 26, 38, 0, 0), (15, .aload_n 0, 0, 0, 0), (16, .getfield 9, 1, 0, 0), (19, .iload_n 1, 1, 0, 0), (20, .iaload, 0, 0, 0), (21, .aload_n 0, 0, 0, 0), (22, .getfield 9, 1, 0, 0), (25, .iload_n 2, 2, 0, 0), (26, .iaload, 0, 0, 0), (27, .if_icmp .ge 7, 34, 0, 0), (30, .iconst 1, 0, 0, 1), (31, .goto 17, 48, 0, 0)]
def pcX1_isBefore_1 : List pmE := [(34, .iconst 0, 0, 0, 0), (35, .goto 13, 48, 0, 0), (38, .iload_n 1, 1, 0, 0), (39, .iload_n 2, 2, 0, 0), (40, .if_icmp .ge 7, 47, 0, 0), (43, .iconst 1, 0, 0, 1), (44, .goto 4, 48, 0, 0), (47, .iconst 0, 0, 0, 0), (48, .ireturn, 0, 1, 0)]
def pcX1_isBefore : List (List pmE) := [pcX1_isBefore_0, pcX1_isBefore_1]
def pcX1_put_0 : List pmE := [(0, .aload_n 0, 0, 0, 0), (1, .getfield 15, 1, 1, 0), (4, .iload_n 2, 2, 0, 0), (5, .iload_n 1, 1, 0, 0), (6, .iastore, 0, 0, 0), (7, .aload_n 0, 0, 0, 0), (8, .getfield 18, 1, 2, 0), (11, .iload_n 1, 1, 0, 0), (12, .iload_n 2, 2, 0, 0), (13, .iastore, 0, 0, 0), (14, .return_, 0, 0, 0)]
def pcX1_put : List (List pmE) := [pcX1_put_0]
def pcX2_init_0 : List pmE := [(0, .aload_n 0, 0, 0, 0), (1, .nop, 0, 0, 0), (4, .aload_n 0, 0, 0, 0), (5, .iconst 3, 0, 0, 3), (6, .newarray .int, 0, 0, 0), (8, .putfield 9, 2, 8, 0), (11, .aload_n 0, 0, 0, 0), (12, .iconst 3, 0, 0, 3), (13, .newarray .int, 0, 0, 0), (15, .putfield 15, 2, 9, 0), (18, .aload_n 0, 0, 0, 0), (19, .iconst 3, 0, 0, 3), (20, .newarray .int, 0, 0, 0), (22, .putfield 18, 2, 10, 0), (25, .aload_n 0, 0, 0, 0), (26, .iload_n 1, 1, 0, 0), (27, .putfield 21, 2, 0, 0), (30, .aload_n 0, 0, 0, 0), (31, .iload_n 2, 2, 0, 0)]
def pcX2_init_1 : List pmE := [(32, .putfield 25, 2, 1, 0), (35, .aload_n 0, 0, 0, 0), (36, .iload_n 3, 3, 0, 0), (37, .putfield 28, 2, 2, 0), (40, .aload_n 0, 0, 0, 0), (41, .iload_n 2, 2, 0, 0), (42, .iload_n 3, 3, 0, 0), (43, .imul, 0, 0, 0), (44, .putfield 31, 2, 3, 0), (47, .aload_n 0, 0, 0, 0), (48, .iload_n 1, 1, 0, 0), (49, .aload_n 0, 0, 0, 0), (50, .getfield 31, 2, 3, 0), (53, .imul, 0, 0, 0), (54, .putfield 34, 2, 4, 0), (57, .aload_n 0, 0, 0, 0), (58, .aload_n 0, 0, 0, 0), (59, .getfield 34, 2, 4, 0), (62, .newarray .int, 0, 0, 0)]
def pcX2_init_2 : List pmE := [(64, .putfield 37, 2, 5, 0), (67, .aload_n 0, 0, 0, 0), (68, .aload_n 0, 0, 0, 0), (69, .getfield 34, 2, 4, 0), (72, .newarray .int, 0, 0, 0), (74, .putfield 40, 2, 6, 0), (77, .aload_n 0, 0, 0, 0), (78, .aload_n 0, 0, 0, 0), (79, .getfield 34, 2, 4, 0), (82, .newarray .int, 0, 0, 0), (84, .putfield 43, 2, 7, 0), (87, .aload_n 0, 0, 0, 0), (88, .aload_n 0, 0, 0, 0), (89, .getfield 34, 2, 4, 0), (92, .newarray .boolean, 0, 0, 0), (94, .putfield 46, 2, 11, 0)]
def pcX2_init_3 : List pmE := [(97, .aload_n 0, 0, 0, 0), (98, .getfield 15, 2, 9, 0), (101, .iconst 3, 0, 0, 3), (102, .invokestatic 50, 1, 2, 0), (105, .aload_n 0, 0, 0, 0), (106, .getfield 18, 2, 10, 0), (109, .iconst 5, 0, 0, 5), (110, .invokestatic 50, 1, 2, 0), (113, .aload_n 0, 0, 0, 0), (114, .invokevirtual 56, 16, 1, 0), (117, .return_, 0, 0, 0)]
def pcX2_init : List (List pmE) := [pcX2_init_0, pcX2_init_1, pcX2_init_2, pcX2_init_3]
def pcX2_numberPlaces_0 : List pmE := [(0, .iconst 0, 0, 0, 0), (1, .istore_n 1, 1, 0, 0), (2, .iconst 0, 0, 0, 0), (3, .istore_n 2, 2, 0, 0), (4, .iload_n 2, 2, 0, 0), (5, .aload_n 0, 0, 0, 0), (6, .getfield 21, 2, 0, 0), (9, .if_icmp .ge 68, 77, 0, 0), (12, .iconst 0, 0, 0, 0), (13, .istore_n 3, 3, 0, 0), (14, .iload_n 3, 3, 0, 0), (15, .aload_n 0, 0, 0, 0), (16, .getfield 28, 2, 2, 0), (19, .if_icmp .ge 52, 71, 0, 0), (22, .iconst 0, 0, 0, 0), (23, .istore 4, 4, 0, 0), (25, .iload 4, 4, 0, 0), (27, .aload_n 0, 0, 0, 0), (28, .getfield 25, 2, 1, 0), (31, .if_icmp .ge 34, 65, 0, 0)]
def pcX2_numberPlaces_1 : List pmE := [(34, .aload_n 0, 0, 0, 0), (35, .getfield 37, 2, 5, 0), (38, .iload_n 1, 1, 0, 0), (39, .iload_n 2, 2, 0, 0), (40, .iastore, 0, 0, 0), (41, .aload_n 0, 0, 0, 0), (42, .getfield 40, 2, 6, 0), (45, .iload_n 1, 1, 0, 0), (46, .iload 4, 4, 0, 0), (48, .iastore, 0, 0, 0), (49, .aload_n 0, 0, 0, 0), (50, .getfield 43, 2, 7, 0), (53, .iload_n 1, 1, 0, 0), (54, .iload_n 3, 3, 0, 0), (55, .iastore, 0, 0, 0), (56, .iinc 1 1, 1, 0, 1), (59, .iinc 4 1, 4, 0, 1), (62, .goto (-37), 25, 0, 0)]
def pcX2_numberPlaces_2 : List pmE := [(65, .iinc 3 1, 3, 0, 1), (68, .goto (-54), 14, 0, 0), (71, .iinc 2 1, 2, 0, 1), (74, .goto (-70), 4, 0, 0), (77, .return_, 0, 0, 0)]
def pcX2_numberPlaces : List (List pmE) := [pcX2_numberPlaces_0, pcX2_numberPlaces_1, pcX2_numberPlaces_2]
def pcX2_placeAt_0 : List pmE := [(0, .iload_n 1, 1, 0, 0), (1, .aload_n 0, 0, 0, 0), (2, .getfield 31, 2, 3, 0), (5, .imul, 0, 0, 0), (6, .iload_n 3, 3, 0, 0), (7, .aload_n 0, 0, 0, 0), (8, .getfield 25, 2, 1, 0), (11, .imul, 0, 0, 0), (12, .iadd, 0, 0, 0), (13, .iload_n 2, 2, 0, 0), (14, .iadd, 0, 0, 0), (15, .ireturn, 0, 0, 0)]
def pcX2_placeAt : List (List pmE) := [pcX2_placeAt_0]
def pcX2_close_0 : List pmE := [(0, .aload_n 0, 0, 0, 0), (1, .getfield 46, 2, 11, 0), (4, .iload_n 1, 1, 0, 0), (5, .baload, 0, 0, 0), (6, .ifCond .eq 5, 11, 0, 0), (9, .iconst 0, 0, 0, 0), (10, .ireturn, 0, 1, 0), (11, .aload_n 0, 0, 0, 0), (12, .getfield 46, 2, 11, 0), (15, .iload_n 1, 1, 0, 0), (16, .iconst 1, 0, 0, 1), (17, .bastore, 0, 0, 0), (18, .aload_n 0, 0, 0, 0), (19, .dup, 0, 0, 0), (20, .getfield 59, 2, 12, 0), (23, .iconst 1, 0, 0, 1), (24, .iadd, 0, 0, 0), (25, .putfield 59, 2, 12, 0), (28, .iconst 1, 0, 0, 1), (29, .ireturn, 0, 1, 0)]
def pcX2_close : List (List pmE) := [pcX2_close_0]
def pcX2_beside_0 : List pmE := [(0, .iload_n 2, 2, 0, 0), (1, .tableswitch 171 0 5 #[39, 56, 79, 99, 125, 145], 39, 0, 0)]
def pcX2_beside_1 : List pmE := [(40, .aload_n 0, 0, 0, 0), (41, .getfield 40, 2, 6, 0), (44, .iload_n 1, 1, 0, 0), (45, .iaload, 0, 0, 0), (46, .ifCond .le 9, 55, 0, 0), (49, .iload_n 1, 1, 0, 0), (50, .iconst 1, 0, 0, 1), (51, .isub, 0, 0, 0), (52, .goto 4, 56, 0, 0), (55, .iconst (-1), 0, 0, -1), (56, .ireturn, 0, 0, 0), (57, .aload_n 0, 0, 0, 0), (58, .getfield 40, 2, 6, 0), (61, .iload_n 1, 1, 0, 0), (62, .iaload, 0, 0, 0), (63, .aload_n 0, 0, 0, 0)]
def pcX2_beside_2 : List pmE := [(64, .getfield 25, 2, 1, 0), (67, .iconst 1, 0, 0, 1), (68, .isub, 0, 0, 0), (69, .if_icmp .ge 9, 78, 0, 0), (72, .iload_n 1, 1, 0, 0), (73, .iconst 1, 0, 0, 1), (74, .iadd, 0, 0, 0), (75, .goto 4, 79, 0, 0), (78, .iconst (-1), 0, 0, -1), (79, .ireturn, 0, 0, 0), (80, .aload_n 0, 0, 0, 0), (81, .getfield 43, 2, 7, 0), (84, .iload_n 1, 1, 0, 0), (85, .iaload, 0, 0, 0), (86, .ifCond .le 12, 98, 0, 0), (89, .iload_n 1, 1, 0, 0), (90, .aload_n 0, 0, 0, 0), (91, .getfield 25, 2, 1, 0), (94, .isub, 0, 0, 0), (95, .goto 4, 99, 0, 0)]
def pcX2_beside_3 : List pmE := [(98, .iconst (-1), 0, 0, -1), (99, .ireturn, 0, 0, 0), (100, .aload_n 0, 0, 0, 0), (101, .getfield 43, 2, 7, 0), (104, .iload_n 1, 1, 0, 0), (105, .iaload, 0, 0, 0), (106, .aload_n 0, 0, 0, 0), (107, .getfield 28, 2, 2, 0), (110, .iconst 1, 0, 0, 1), (111, .isub, 0, 0, 0), (112, .if_icmp .ge 12, 124, 0, 0), (115, .iload_n 1, 1, 0, 0), (116, .aload_n 0, 0, 0, 0), (117, .getfield 25, 2, 1, 0), (120, .iadd, 0, 0, 0), (121, .goto 4, 125, 0, 0), (124, .iconst (-1), 0, 0, -1), (125, .ireturn, 0, 0, 0), (126, .aload_n 0, 0, 0, 0), (127, .getfield 37, 2, 5, 0)]
def pcX2_beside_4 : List pmE := [(130, .iload_n 1, 1, 0, 0), (131, .iaload, 0, 0, 0), (132, .ifCond .le 12, 144, 0, 0), (135, .iload_n 1, 1, 0, 0), (136, .aload_n 0, 0, 0, 0), (137, .getfield 31, 2, 3, 0), (140, .isub, 0, 0, 0), (141, .goto 4, 145, 0, 0), (144, .iconst (-1), 0, 0, -1), (145, .ireturn, 0, 0, 0), (146, .aload_n 0, 0, 0, 0), (147, .getfield 37, 2, 5, 0), (150, .iload_n 1, 1, 0, 0), (151, .iaload, 0, 0, 0), (152, .aload_n 0, 0, 0, 0), (153, .getfield 21, 2, 0, 0), (156, .iconst 1, 0, 0, 1), (157, .isub, 0, 0, 0), (158, .if_icmp .ge 12, 170, 0, 0)]
def pcX2_beside_5 : List pmE := [(161, .iload_n 1, 1, 0, 0), (162, .aload_n 0, 0, 0, 0), (163, .getfield 31, 2, 3, 0), (166, .iadd, 0, 0, 0), (167, .goto 4, 171, 0, 0), (170, .iconst (-1), 0, 0, -1), (171, .ireturn, 0, 0, 0), (172, .iconst (-1), 0, 0, -1), (173, .ireturn, 0, 0, 0)]
def pcX2_beside : List (List pmE) := [pcX2_beside_0, pcX2_beside_1, pcX2_beside_2, pcX2_beside_3, pcX2_beside_4, pcX2_beside_5]
def pcX2_stepCost_0 : List pmE := [(0, .aload_n 0, 0, 0, 0), (1, .getfield 37, 2, 5, 0), (4, .iload_n 1, 1, 0, 0), (5, .iaload, 0, 0, 0), (6, .istore_n 3, 3, 0, 0), (7, .aload_n 0, 0, 0, 0), (8, .getfield 37, 2, 5, 0), (11, .iload_n 2, 2, 0, 0), (12, .iaload, 0, 0, 0), (13, .iload_n 3, 3, 0, 0), (14, .if_icmp .eq 19, 33, 0, 0), (17, .aload_n 0, 0, 0, 0), (18, .getfield 18, 2, 10, 0), (21, .iload_n 3, 3, 0, 0), (22, .aload_n 0, 0, 0, 0), (23, .getfield 37, 2, 5, 0), (26, .iload_n 2, 2, 0, 0), (27, .iaload, 0, 0, 0), (28, .dup_x1, 0, 0, 0), (31, .iaload, 0, 0, 0)]
def pcX2_stepCost_1 : List pmE := [(32, .ireturn, 0, 0, 0), (33, .aload_n 0, 0, 0, 0), (34, .getfield 43, 2, 7, 0), (37, .iload_n 1, 1, 0, 0), (38, .iaload, 0, 0, 0), (39, .aload_n 0, 0, 0, 0), (40, .getfield 43, 2, 7, 0), (43, .iload_n 2, 2, 0, 0), (44, .iaload, 0, 0, 0), (45, .if_icmp .ne 7, 52, 0, 0), (48, .iconst 1, 0, 0, 1), (49, .goto 4, 53, 0, 0), (52, .iconst 0, 0, 0, 0), (53, .istore 4, 4, 0, 0), (55, .iload_n 3, 3, 0, 0), (56, .iconst 2, 0, 0, 2), (57, .irem, 0, 0, 0), (58, .ifCond .ne 7, 65, 0, 0), (61, .iconst 1, 0, 0, 1), (62, .goto 4, 66, 0, 0)]
def pcX2_stepCost_2 : List pmE := [(65, .iconst 0, 0, 0, 0), (66, .istore 5, 5, 0, 0), (68, .iload 4, 4, 0, 0), (70, .iload 5, 5, 0, 0), (72, .if_icmp .ne 7, 79, 0, 0), (75, .iconst 1, 0, 0, 1), (76, .goto 11, 87, 0, 0), (79, .iconst 1, 0, 0, 1), (80, .aload_n 0, 0, 0, 0), (81, .getfield 15, 2, 9, 0), (84, .iload_n 3, 3, 0, 0), (85, .iaload, 0, 0, 0), (86, .iadd, 0, 0, 0), (87, .ireturn, 0, 0, 0)]
def pcX2_stepCost : List (List pmE) := [pcX2_stepCost_0, pcX2_stepCost_1, pcX2_stepCost_2]
def pcX3_init_0 : List pmE := [(0, .aload_n 0, 0, 0, 0), (1, .nop, 0, 0, 0), (4, .aload_n 0, 0, 0, 0), (5, .bipush 40, 0, 0, 40), (7, .newarray .int, 0, 0, 0), (9, .putfield 9, 3, 5, 0), (12, .aload_n 0, 0, 0, 0), (13, .aload_n 1, 1, 0, 0), (14, .putfield 15, 3, 0, 0), (17, .aload_n 0, 0, 0, 0), (18, .aload_n 2, 2, 0, 0), (19, .putfield 19, 3, 1, 0), (22, .aload_n 0, 0, 0, 0), (23, .new 23, 4, 0, 0), (26, .dup, 0, 0, 0), (27, .aload_n 1, 1, 0, 0), (28, .invokespecial 25, 45, 2, 0), (31, .putfield 28, 3, 2, 0)]
def pcX3_init_1 : List pmE := [(34, .aload_n 0, 0, 0, 0), (35, .new 23, 4, 0, 0), (38, .dup, 0, 0, 0), (39, .aload_n 1, 1, 0, 0), (40, .invokespecial 25, 45, 2, 0), (43, .putfield 32, 3, 3, 0), (46, .aload_n 0, 0, 0, 0), (47, .new 35, 1, 0, 0), (50, .dup, 0, 0, 0), (51, .aload_n 1, 1, 0, 0), (52, .getfield 37, 2, 4, 0), (55, .invokespecial 43, 8, 2, 0), (58, .putfield 46, 3, 4, 0), (61, .aload_n 0, 0, 0, 0), (62, .aload_n 1, 1, 0, 0), (63, .getfield 37, 2, 4, 0)]
def pcX3_init_2 : List pmE := [(66, .newarray .int, 0, 0, 0), (68, .putfield 50, 3, 6, 0), (71, .aload_n 0, 0, 0, 0), (72, .aload_n 1, 1, 0, 0), (73, .getfield 37, 2, 4, 0), (76, .newarray .int, 0, 0, 0), (78, .putfield 53, 3, 7, 0), (81, .aload_n 0, 0, 0, 0), (82, .aload_n 1, 1, 0, 0), (83, .getfield 37, 2, 4, 0), (86, .newarray .int, 0, 0, 0), (88, .putfield 56, 3, 8, 0), (91, .return_, 0, 0, 0)]
def pcX3_init : List (List pmE) := [pcX3_init_0, pcX3_init_1, pcX3_init_2]
def pcX3_begin_0 : List pmE := [(0, .aload_n 0, 0, 0, 0), (1, .getfield 28, 3, 2, 0), (4, .invokevirtual 59, 46, 1, 0), (7, .aload_n 0, 0, 0, 0), (8, .getfield 32, 3, 3, 0), (11, .invokevirtual 59, 46, 1, 0), (14, .aload_n 0, 0, 0, 0), (15, .getfield 50, 3, 6, 0), (18, .iconst 0, 0, 0, 0), (19, .invokestatic 62, 1, 2, 0), (22, .aload_n 0, 0, 0, 0), (23, .getfield 53, 3, 7, 0), (26, .iconst 0, 0, 0, 0), (27, .invokestatic 62, 1, 2, 0), (30, .aload_n 0, 0, 0, 0), (31, .iconst 0, 0, 0, 0)]
def pcX3_begin_1 : List pmE := [(32, .putfield 68, 3, 10, 0), (35, .aload_n 0, 0, 0, 0), (36, .iconst 0, 0, 0, 0), (37, .putfield 71, 3, 11, 0), (40, .aload_n 0, 0, 0, 0), (41, .iconst 0, 0, 0, 0), (42, .putfield 74, 3, 12, 0), (45, .aload_n 0, 0, 0, 0), (46, .iconst 0, 0, 0, 0), (47, .putfield 77, 3, 13, 0), (50, .aload_n 0, 0, 0, 0), (51, .iconst 0, 0, 0, 0), (52, .putfield 80, 3, 14, 0), (55, .aload_n 0, 0, 0, 0), (56, .iconst 0, 0, 0, 0), (57, .putfield 83, 3, 15, 0), (60, .aload_n 0, 0, 0, 0), (61, .invokevirtual 86, 23, 1, 0)]
def pcX3_begin_2 : List pmE := [(64, .iconst 0, 0, 0, 0), (65, .istore_n 1, 1, 0, 0), (66, .iload_n 1, 1, 0, 0), (67, .aload_n 0, 0, 0, 0), (68, .getfield 19, 3, 1, 0), (71, .getfield 89, 0, 0, 0), (74, .if_icmp .ge 45, 119, 0, 0), (77, .aload_n 0, 0, 0, 0), (78, .getfield 19, 3, 1, 0), (81, .getfield 94, 0, 4, 0), (84, .iload_n 1, 1, 0, 0), (85, .iaload, 0, 0, 0), (86, .iconst 1, 0, 0, 1), (87, .if_icmp .gt 26, 113, 0, 0), (90, .aload_n 0, 0, 0, 0), (91, .getfield 68, 3, 10, 0), (94, .iload_n 1, 1, 0, 0), (95, .invokestatic 97, 74, 2, 0)]
def pcX3_begin_3 : List pmE := [(98, .ifCond .ne 15, 113, 0, 0), (101, .aload_n 0, 0, 0, 0), (102, .dup, 0, 0, 0), (103, .getfield 71, 3, 11, 0), (106, .iconst 1, 0, 0, 1), (107, .iload_n 1, 1, 0, 0), (108, .ishl, 0, 0, 0), (109, .ior, 0, 0, 0), (110, .putfield 71, 3, 11, 0), (113, .iinc 1 1, 1, 0, 1), (116, .goto (-50), 66, 0, 0), (119, .return_, 0, 0, 0)]
def pcX3_begin : List (List pmE) := [pcX3_begin_0, pcX3_begin_1, pcX3_begin_2, pcX3_begin_3]
def pcX3_choosePlaces_0 : List pmE := [(0, .iconst 0, 0, 0, 0), (1, .istore_n 1, 1, 0, 0), (2, .iload_n 1, 1, 0, 0), (3, .aload_n 0, 0, 0, 0), (4, .getfield 19, 3, 1, 0), (7, .getfield 101, 0, 2, 0), (10, .if_icmp .ge 78, 88, 0, 0), (13, .aload_n 0, 0, 0, 0), (14, .getfield 19, 3, 1, 0), (17, .getfield 104, 0, 3, 0), (20, .iload_n 1, 1, 0, 0), (21, .iaload, 0, 0, 0), (22, .istore_n 2, 2, 0, 0), (23, .aload_n 0, 0, 0, 0), (24, .getfield 9, 3, 5, 0), (27, .iload_n 1, 1, 0, 0), (28, .aload_n 0, 0, 0, 0), (29, .iload_n 1, 1, 0, 0), (30, .iload_n 2, 2, 0, 0), (31, .invokevirtual 107, 24, 3, 0)]
def pcX3_choosePlaces_1 : List pmE := [(34, .iastore, 0, 0, 0), (35, .aload_n 0, 0, 0, 0), (36, .getfield 9, 3, 5, 0), (39, .iload_n 1, 1, 0, 0), (40, .iaload, 0, 0, 0), (41, .iconst (-1), 0, 0, -1), (42, .if_icmp .ne 18, 60, 0, 0), (45, .aload_n 0, 0, 0, 0), (46, .dup, 0, 0, 0), (47, .getfield 68, 3, 10, 0), (50, .iconst 1, 0, 0, 1), (51, .iload_n 2, 2, 0, 0), (52, .ishl, 0, 0, 0), (53, .ior, 0, 0, 0), (54, .putfield 68, 3, 10, 0), (57, .goto 25, 82, 0, 0), (60, .aload_n 0, 0, 0, 0), (61, .getfield 28, 3, 2, 0)]
def pcX3_choosePlaces_2 : List pmE := [(64, .iload_n 2, 2, 0, 0), (65, .aload_n 0, 0, 0, 0), (66, .getfield 19, 3, 1, 0), (69, .iload_n 1, 1, 0, 0), (70, .aload_n 0, 0, 0, 0), (71, .getfield 9, 3, 5, 0), (74, .iload_n 1, 1, 0, 0), (75, .iaload, 0, 0, 0), (76, .invokevirtual 111, 5, 3, 0), (79, .invokevirtual 114, 47, 3, 0), (82, .iinc 1 1, 1, 0, 1), (85, .goto (-83), 2, 0, 0), (88, .return_, 0, 0, 0)]
def pcX3_choosePlaces : List (List pmE) := [pcX3_choosePlaces_0, pcX3_choosePlaces_1, pcX3_choosePlaces_2]
def pcX3_firstFit_0 : List pmE := [(0, .iconst 0, 0, 0, 0), (1, .istore_n 3, 3, 0, 0), (2, .iload_n 3, 3, 0, 0), (3, .aload_n 0, 0, 0, 0), (4, .getfield 19, 3, 1, 0), (7, .getfield 118, 0, 5, 0), (10, .iload_n 1, 1, 0, 0), (11, .iaload, 0, 0, 0), (12, .if_icmp .ge 55, 67, 0, 0), (15, .aload_n 0, 0, 0, 0), (16, .getfield 19, 3, 1, 0), (19, .iload_n 1, 1, 0, 0), (20, .iload_n 3, 3, 0, 0), (21, .invokevirtual 111, 5, 3, 0), (24, .istore 4, 4, 0, 0), (26, .aload_n 0, 0, 0, 0), (27, .getfield 15, 3, 0, 0), (30, .getfield 121, 2, 11, 0)]
def pcX3_firstFit_1 : List pmE := [(33, .iload 4, 4, 0, 0), (35, .baload, 0, 0, 0), (36, .ifCond .ne 25, 61, 0, 0), (39, .aload_n 0, 0, 0, 0), (40, .getfield 28, 3, 2, 0), (43, .iload_n 2, 2, 0, 0), (44, .iload 4, 4, 0, 0), (46, .aload_n 0, 0, 0, 0), (47, .getfield 19, 3, 1, 0), (50, .getfield 125, 0, 1, 0), (53, .invokevirtual 128, 50, 4, 0), (56, .ifCond .ne 5, 61, 0, 0), (59, .iload_n 3, 3, 0, 0), (60, .ireturn, 0, 0, 0), (61, .iinc 3 1, 3, 0, 1)]
def pcX3_firstFit_2 : List pmE := [(64, .goto (-62), 2, 0, 0), (67, .iconst (-1), 0, 0, -1), (68, .ireturn, 0, 0, 0)]
def pcX3_firstFit : List (List pmE) := [pcX3_firstFit_0, pcX3_firstFit_1, pcX3_firstFit_2]
def pcX3_makeRounds_0 : List pmE := [(0, .iconst 0, 0, 0, 0), (1, .istore_n 2, 2, 0, 0), (2, .iload_n 2, 2, 0, 0), (3, .iload_n 1, 1, 0, 0), (4, .if_icmp .ge 58, 62, 0, 0), (7, .aload_n 0, 0, 0, 0), (8, .invokevirtual 132, 27, 1, 0), (11, .ifCond .eq 51, 62, 0, 0), (14, .aload_n 0, 0, 0, 0), (15, .dup, 0, 0, 0), (16, .getfield 77, 3, 13, 0), (19, .iconst 1, 0, 0, 1), (20, .iadd, 0, 0, 0), (21, .putfield 77, 3, 13, 0), (24, .iconst 0, 0, 0, 0), (25, .istore_n 3, 3, 0, 0), (26, .iload_n 3, 3, 0, 0), (27, .aload_n 0, 0, 0, 0), (28, .getfield 19, 3, 1, 0), (31, .getfield 89, 0, 0, 0)]
def pcX3_makeRounds_1 : List pmE := [(34, .if_icmp .ge 22, 56, 0, 0), (37, .aload_n 0, 0, 0, 0), (38, .iload_n 3, 3, 0, 0), (39, .invokevirtual 136, 26, 2, 0), (42, .ifCond .eq 8, 50, 0, 0), (45, .aload_n 0, 0, 0, 0), (46, .iload_n 3, 3, 0, 0), (47, .invokevirtual 140, 28, 2, 0), (50, .iinc 3 1, 3, 0, 1), (53, .goto (-27), 26, 0, 0), (56, .iinc 2 1, 2, 0, 1), (59, .goto (-57), 2, 0, 0), (62, .return_, 0, 0, 0)]
def pcX3_makeRounds : List (List pmE) := [pcX3_makeRounds_0, pcX3_makeRounds_1]
def pcX3_waits_0 : List pmE := [(0, .aload_n 0, 0, 0, 0), (1, .getfield 68, 3, 10, 0), (4, .aload_n 0, 0, 0, 0), (5, .getfield 71, 3, 11, 0), (8, .ior, 0, 0, 0), (9, .iload_n 1, 1, 0, 0), (10, .invokestatic 97, 74, 2, 0), (13, .ifCond .ne 7, 20, 0, 0), (16, .iconst 1, 0, 0, 1), (17, .goto 4, 21, 0, 0), (20, .iconst 0, 0, 0, 0), (21, .ireturn, 0, 1, 0)]
def pcX3_waits : List (List pmE) := [pcX3_waits_0]
def pcX3_someWait_0 : List pmE := [(0, .aload_n 0, 0, 0, 0), (1, .getfield 68, 3, 10, 0), (4, .aload_n 0, 0, 0, 0), (5, .getfield 71, 3, 11, 0), (8, .ior, 0, 0, 0), (9, .invokestatic 143, 0, 1, 0), (12, .aload_n 0, 0, 0, 0), (13, .getfield 19, 3, 1, 0), (16, .getfield 89, 0, 0, 0), (19, .if_icmp .ge 7, 26, 0, 0), (22, .iconst 1, 0, 0, 1), (23, .goto 4, 27, 0, 0), (26, .iconst 0, 0, 0, 0), (27, .ireturn, 0, 1, 0)]
def pcX3_someWait : List (List pmE) := [pcX3_someWait_0]
def pcX3_route_0 : List pmE := [(0, .aload_n 0, 0, 0, 0), (1, .iload_n 1, 1, 0, 0), (2, .invokevirtual 149, 30, 2, 0), (5, .istore_n 2, 2, 0, 0), (6, .iload_n 2, 2, 0, 0), (7, .iconst (-1), 0, 0, -1), (8, .if_icmp .eq 12, 20, 0, 0), (11, .aload_n 0, 0, 0, 0), (12, .getfield 32, 3, 3, 0), (15, .iload_n 1, 1, 0, 0), (16, .iload_n 2, 2, 0, 0), (17, .invokevirtual 114, 47, 3, 0), (20, .iconst 0, 0, 0, 0), (21, .istore_n 3, 3, 0, 0), (22, .iload_n 3, 3, 0, 0), (23, .bipush 40, 0, 0, 40), (25, .if_icmp .ge 106, 131, 0, 0), (28, .aload_n 0, 0, 0, 0), (29, .iload_n 1, 1, 0, 0), (30, .invokevirtual 149, 30, 2, 0)]
def pcX3_route_1 : List pmE := [(33, .iconst (-1), 0, 0, -1), (34, .if_icmp .eq 97, 131, 0, 0), (37, .aload_n 0, 0, 0, 0), (38, .iload_n 1, 1, 0, 0), (39, .iconst 0, 0, 0, 0), (40, .invokevirtual 152, 31, 3, 0), (43, .istore 4, 4, 0, 0), (45, .iload 4, 4, 0, 0), (47, .iconst (-1), 0, 0, -1), (48, .if_icmp .ne 7, 55, 0, 0), (51, .iconst 1, 0, 0, 1), (52, .goto 4, 56, 0, 0), (55, .iconst 0, 0, 0, 0), (56, .istore 5, 5, 0, 0), (58, .iload 5, 5, 0, 0), (60, .ifCond .eq 11, 71, 0, 0), (63, .aload_n 0, 0, 0, 0)]
def pcX3_route_2 : List pmE := [(64, .iload_n 1, 1, 0, 0), (65, .iconst 1, 0, 0, 1), (66, .invokevirtual 152, 31, 3, 0), (69, .istore 4, 4, 0, 0), (71, .iload 4, 4, 0, 0), (73, .iconst (-1), 0, 0, -1), (74, .if_icmp .ne 21, 95, 0, 0), (77, .aload_n 0, 0, 0, 0), (78, .iload_n 1, 1, 0, 0), (79, .invokevirtual 156, 38, 2, 0), (82, .aload_n 0, 0, 0, 0), (83, .dup, 0, 0, 0), (84, .getfield 74, 3, 12, 0), (87, .iconst 1, 0, 0, 1), (88, .iload_n 1, 1, 0, 0), (89, .ishl, 0, 0, 0), (90, .ior, 0, 0, 0), (91, .putfield 74, 3, 12, 0), (94, .return_, 0, 0, 0), (95, .aload_n 0, 0, 0, 0)]
def pcX3_route_3 : List pmE := [(96, .iload_n 1, 1, 0, 0), (97, .iload 4, 4, 0, 0), (99, .iload 5, 5, 0, 0), (101, .invokevirtual 159, 35, 4, 0), (104, .iload 5, 5, 0, 0), (106, .ifCond .eq 8, 114, 0, 0), (109, .aload_n 0, 0, 0, 0), (110, .iload_n 1, 1, 0, 0), (111, .invokevirtual 163, 37, 2, 0), (114, .aload_n 0, 0, 0, 0), (115, .iload_n 1, 1, 0, 0), (116, .invokevirtual 166, 39, 2, 0), (119, .aload_n 0, 0, 0, 0), (120, .iload 5, 5, 0, 0), (122, .invokevirtual 169, 29, 2, 0), (125, .iinc 3 1, 3, 0, 1)]
def pcX3_route_4 : List pmE := [(128, .goto (-106), 22, 0, 0), (131, .aload_n 0, 0, 0, 0), (132, .dup, 0, 0, 0), (133, .getfield 74, 3, 12, 0), (136, .iconst 1, 0, 0, 1), (137, .iload_n 1, 1, 0, 0), (138, .ishl, 0, 0, 0), (139, .iconst (-1), 0, 0, -1), (140, .ixor, 0, 0, 0), (141, .iand, 0, 0, 0), (142, .putfield 74, 3, 12, 0), (145, .aload_n 0, 0, 0, 0), (146, .dup, 0, 0, 0), (147, .getfield 71, 3, 11, 0), (150, .iconst 1, 0, 0, 1), (151, .iload_n 1, 1, 0, 0), (152, .ishl, 0, 0, 0), (153, .ior, 0, 0, 0), (154, .putfield 71, 3, 11, 0), (157, .return_, 0, 0, 0)]
def pcX3_route : List (List pmE) := [pcX3_route_0, pcX3_route_1, pcX3_route_2, pcX3_route_3, pcX3_route_4]
def pcX3_countWay_0 : List pmE := [(0, .iload_n 1, 1, 0, 0), (1, .ifCond .eq 16, 17, 0, 0), (4, .aload_n 0, 0, 0, 0), (5, .dup, 0, 0, 0), (6, .getfield 83, 3, 15, 0), (9, .iconst 1, 0, 0, 1), (10, .iadd, 0, 0, 0), (11, .putfield 83, 3, 15, 0), (14, .goto 13, 27, 0, 0), (17, .aload_n 0, 0, 0, 0), (18, .dup, 0, 0, 0), (19, .getfield 80, 3, 14, 0), (22, .iconst 1, 0, 0, 1), (23, .iadd, 0, 0, 0), (24, .putfield 80, 3, 14, 0), (27, .return_, 0, 0, 0)]
def pcX3_countWay : List (List pmE) := [pcX3_countWay_0]
def pcX3_placeOutside_0 : List pmE := [(0, .iconst 0, 0, 0, 0), (1, .istore_n 2, 2, 0, 0), (2, .iload_n 2, 2, 0, 0), (3, .aload_n 0, 0, 0, 0), (4, .getfield 19, 3, 1, 0), (7, .getfield 101, 0, 2, 0), (10, .if_icmp .ge 65, 75, 0, 0), (13, .aload_n 0, 0, 0, 0), (14, .getfield 19, 3, 1, 0), (17, .getfield 104, 0, 3, 0), (20, .iload_n 2, 2, 0, 0), (21, .iaload, 0, 0, 0), (22, .iload_n 1, 1, 0, 0), (23, .if_icmp .ne 46, 69, 0, 0), (26, .aload_n 0, 0, 0, 0), (27, .getfield 9, 3, 5, 0), (30, .iload_n 2, 2, 0, 0), (31, .iaload, 0, 0, 0)]
def pcX3_placeOutside_1 : List pmE := [(32, .iconst (-1), 0, 0, -1), (33, .if_icmp .eq 36, 69, 0, 0), (36, .aload_n 0, 0, 0, 0), (37, .getfield 19, 3, 1, 0), (40, .iload_n 2, 2, 0, 0), (41, .aload_n 0, 0, 0, 0), (42, .getfield 9, 3, 5, 0), (45, .iload_n 2, 2, 0, 0), (46, .iaload, 0, 0, 0), (47, .invokevirtual 111, 5, 3, 0), (50, .istore_n 3, 3, 0, 0), (51, .aload_n 0, 0, 0, 0), (52, .getfield 32, 3, 3, 0), (55, .getfield 173, 4, 1, 0), (58, .iload_n 3, 3, 0, 0), (59, .iaload, 0, 0, 0), (60, .iload_n 1, 1, 0, 0), (61, .invokestatic 97, 74, 2, 0)]
def pcX3_placeOutside_2 : List pmE := [(64, .ifCond .ne 5, 69, 0, 0), (67, .iload_n 3, 3, 0, 0), (68, .ireturn, 0, 0, 0), (69, .iinc 2 1, 2, 0, 1), (72, .goto (-70), 2, 0, 0), (75, .iconst (-1), 0, 0, -1), (76, .ireturn, 0, 0, 0)]
def pcX3_placeOutside : List (List pmE) := [pcX3_placeOutside_0, pcX3_placeOutside_1, pcX3_placeOutside_2]
def pcX3_findEnd_0 : List pmE := [(0, .aload_n 0, 0, 0, 0), (1, .getfield 46, 3, 4, 0), (4, .invokevirtual 176, 9, 1, 0), (7, .iconst 0, 0, 0, 0), (8, .istore_n 3, 3, 0, 0), (9, .iload_n 3, 3, 0, 0), (10, .aload_n 0, 0, 0, 0), (11, .getfield 15, 3, 0, 0), (14, .getfield 37, 2, 4, 0), (17, .if_icmp .ge 34, 51, 0, 0), (20, .aload_n 0, 0, 0, 0), (21, .getfield 32, 3, 3, 0), (24, .getfield 173, 4, 1, 0), (27, .iload_n 3, 3, 0, 0), (28, .iaload, 0, 0, 0), (29, .iload_n 1, 1, 0, 0), (30, .invokestatic 97, 74, 2, 0)]
def pcX3_findEnd_1 : List pmE := [(33, .ifCond .eq 12, 45, 0, 0), (36, .aload_n 0, 0, 0, 0), (37, .getfield 46, 3, 4, 0), (40, .iload_n 3, 3, 0, 0), (41, .iconst 0, 0, 0, 0), (42, .invokevirtual 177, 10, 3, 0), (45, .iinc 3 1, 3, 0, 1), (48, .goto (-39), 9, 0, 0), (51, .iconst 0, 0, 0, 0), (52, .istore_n 3, 3, 0, 0), (53, .iload_n 3, 3, 0, 0), (54, .aload_n 0, 0, 0, 0), (55, .getfield 15, 3, 0, 0), (58, .getfield 37, 2, 4, 0), (61, .if_icmp .ge 45, 106, 0, 0)]
def pcX3_findEnd_2 : List pmE := [(64, .aload_n 0, 0, 0, 0), (65, .getfield 46, 3, 4, 0), (68, .invokevirtual 180, 11, 1, 0), (71, .istore 4, 4, 0, 0), (73, .iload 4, 4, 0, 0), (75, .iconst (-1), 0, 0, -1), (76, .if_icmp .eq 13, 89, 0, 0), (79, .aload_n 0, 0, 0, 0), (80, .iload_n 1, 1, 0, 0), (81, .iload 4, 4, 0, 0), (83, .invokevirtual 184, 32, 3, 0), (86, .ifCond .eq 6, 92, 0, 0), (89, .iload 4, 4, 0, 0), (91, .ireturn, 0, 0, 0), (92, .aload_n 0, 0, 0, 0), (93, .iload_n 1, 1, 0, 0), (94, .iload 4, 4, 0, 0)]
def pcX3_findEnd_3 : List pmE := [(96, .iload_n 2, 2, 0, 0), (97, .invokevirtual 187, 33, 4, 0), (100, .iinc 3 1, 3, 0, 1), (103, .goto (-50), 53, 0, 0), (106, .iconst (-1), 0, 0, -1), (107, .ireturn, 0, 0, 0)]
def pcX3_findEnd : List (List pmE) := [pcX3_findEnd_0, pcX3_findEnd_1, pcX3_findEnd_2, pcX3_findEnd_3]
def pcX3_isGoal_0 : List pmE := [(0, .aload_n 0, 0, 0, 0), (1, .getfield 28, 3, 2, 0), (4, .getfield 173, 4, 1, 0), (7, .iload_n 2, 2, 0, 0), (8, .iaload, 0, 0, 0), (9, .aload_n 0, 0, 0, 0), (10, .getfield 32, 3, 3, 0), (13, .getfield 173, 4, 1, 0), (16, .iload_n 2, 2, 0, 0), (17, .iaload, 0, 0, 0), (18, .iconst (-1), 0, 0, -1), (19, .ixor, 0, 0, 0), (20, .iand, 0, 0, 0), (21, .iload_n 1, 1, 0, 0), (22, .invokestatic 97, 74, 2, 0), (25, .ireturn, 0, 1, 0)]
def pcX3_isGoal : List (List pmE) := [pcX3_isGoal_0]
def pcX3_offerAround_0 : List pmE := [(0, .aload_n 0, 0, 0, 0), (1, .getfield 46, 3, 4, 0), (4, .getfield 190, 1, 0, 0), (7, .iload_n 2, 2, 0, 0), (8, .iaload, 0, 0, 0), (9, .istore 4, 4, 0, 0), (11, .iconst 0, 0, 0, 0), (12, .istore 5, 5, 0, 0), (14, .iload 5, 5, 0, 0), (16, .bipush 6, 0, 0, 6), (18, .if_icmp .ge 83, 101, 0, 0), (21, .aload_n 0, 0, 0, 0), (22, .getfield 15, 3, 0, 0), (25, .iload_n 2, 2, 0, 0), (26, .iload 5, 5, 0, 0), (28, .invokevirtual 193, 19, 3, 0), (31, .istore 6, 6, 0, 0)]
def pcX3_offerAround_1 : List pmE := [(33, .iload 6, 6, 0, 0), (35, .iconst (-1), 0, 0, -1), (36, .if_icmp .eq 59, 95, 0, 0), (39, .aload_n 0, 0, 0, 0), (40, .getfield 46, 3, 4, 0), (43, .getfield 190, 1, 0, 0), (46, .iload 6, 6, 0, 0), (48, .iaload, 0, 0, 0), (49, .iload 4, 4, 0, 0), (51, .if_icmp .le 44, 95, 0, 0), (54, .aload_n 0, 0, 0, 0), (55, .iload_n 1, 1, 0, 0), (56, .iload 6, 6, 0, 0), (58, .iload_n 3, 3, 0, 0), (59, .invokevirtual 196, 34, 4, 0), (62, .istore 7, 7, 0, 0)]
def pcX3_offerAround_2 : List pmE := [(64, .iload 7, 7, 0, 0), (66, .iconst (-1), 0, 0, -1), (67, .if_icmp .eq 28, 95, 0, 0), (70, .aload_n 0, 0, 0, 0), (71, .getfield 46, 3, 4, 0), (74, .iload 6, 6, 0, 0), (76, .iload 4, 4, 0, 0), (78, .aload_n 0, 0, 0, 0), (79, .getfield 15, 3, 0, 0), (82, .iload_n 2, 2, 0, 0), (83, .iload 6, 6, 0, 0), (85, .invokevirtual 200, 20, 3, 0), (88, .iadd, 0, 0, 0), (89, .iload 7, 7, 0, 0), (91, .iadd, 0, 0, 0), (92, .invokevirtual 177, 10, 3, 0), (95, .iinc 5 1, 5, 0, 1)]
def pcX3_offerAround_3 : List pmE := [(98, .goto (-84), 14, 0, 0), (101, .return_, 0, 0, 0)]
def pcX3_offerAround : List (List pmE) := [pcX3_offerAround_0, pcX3_offerAround_1, pcX3_offerAround_2, pcX3_offerAround_3]
def pcX3_entryCost_0 : List pmE := [(0, .aload_n 0, 0, 0, 0), (1, .getfield 15, 3, 0, 0), (4, .getfield 121, 2, 11, 0), (7, .iload_n 2, 2, 0, 0), (8, .baload, 0, 0, 0), (9, .ifCond .ne 22, 31, 0, 0), (12, .aload_n 0, 0, 0, 0), (13, .getfield 28, 3, 2, 0), (16, .iload_n 1, 1, 0, 0), (17, .iload_n 2, 2, 0, 0), (18, .aload_n 0, 0, 0, 0), (19, .getfield 19, 3, 1, 0), (22, .getfield 125, 0, 1, 0), (25, .invokevirtual 128, 50, 4, 0), (28, .ifCond .eq 5, 33, 0, 0), (31, .iconst (-1), 0, 0, -1)]
def pcX3_entryCost_1 : List pmE := [(32, .ireturn, 0, 0, 0), (33, .aload_n 0, 0, 0, 0), (34, .getfield 32, 3, 3, 0), (37, .iload_n 1, 1, 0, 0), (38, .iload_n 2, 2, 0, 0), (39, .aload_n 0, 0, 0, 0), (40, .getfield 19, 3, 1, 0), (43, .getfield 125, 0, 1, 0), (46, .invokevirtual 128, 50, 4, 0), (49, .ifCond .ne 10, 59, 0, 0), (52, .aload_n 0, 0, 0, 0), (53, .getfield 50, 3, 6, 0), (56, .iload_n 2, 2, 0, 0), (57, .iaload, 0, 0, 0), (58, .ireturn, 0, 0, 0), (59, .iload_n 3, 3, 0, 0), (60, .ifCond .eq 15, 75, 0, 0), (63, .aload_n 0, 0, 0, 0)]
def pcX3_entryCost_2 : List pmE := [(64, .getfield 50, 3, 6, 0), (67, .iload_n 2, 2, 0, 0), (68, .iaload, 0, 0, 0), (69, .bipush 20, 0, 0, 20), (71, .iadd, 0, 0, 0), (72, .goto 4, 76, 0, 0), (75, .iconst (-1), 0, 0, -1), (76, .ireturn, 0, 0, 0)]
def pcX3_entryCost : List (List pmE) := [pcX3_entryCost_0, pcX3_entryCost_1, pcX3_entryCost_2]
def pcX3_traceBack_0 : List pmE := [(0, .aload_n 0, 0, 0, 0), (1, .iconst 0, 0, 0, 0), (2, .putfield 203, 3, 9, 0), (5, .iload_n 2, 2, 0, 0), (6, .istore 4, 4, 0, 0), (8, .aload_n 0, 0, 0, 0), (9, .getfield 203, 3, 9, 0), (12, .aload_n 0, 0, 0, 0), (13, .getfield 56, 3, 8, 0), (16, .arraylength, 0, 0, 0), (17, .if_icmp .ge 60, 77, 0, 0), (20, .iload 4, 4, 0, 0), (22, .iconst (-1), 0, 0, -1), (23, .if_icmp .eq 54, 77, 0, 0), (26, .aload_n 0, 0, 0, 0), (27, .getfield 56, 3, 8, 0), (30, .aload_n 0, 0, 0, 0), (31, .getfield 203, 3, 9, 0)]
def pcX3_traceBack_1 : List pmE := [(34, .iload 4, 4, 0, 0), (36, .iastore, 0, 0, 0), (37, .aload_n 0, 0, 0, 0), (38, .dup, 0, 0, 0), (39, .getfield 203, 3, 9, 0), (42, .iconst 1, 0, 0, 1), (43, .iadd, 0, 0, 0), (44, .putfield 203, 3, 9, 0), (47, .aload_n 0, 0, 0, 0), (48, .getfield 46, 3, 4, 0), (51, .getfield 190, 1, 0, 0), (54, .iload 4, 4, 0, 0), (56, .iaload, 0, 0, 0), (57, .ifCond .ne 7, 64, 0, 0), (60, .iconst (-1), 0, 0, -1), (61, .goto 11, 72, 0, 0)]
def pcX3_traceBack_2 : List pmE := [(64, .aload_n 0, 0, 0, 0), (65, .iload_n 1, 1, 0, 0), (66, .iload 4, 4, 0, 0), (68, .iload_n 3, 3, 0, 0), (69, .invokevirtual 206, 36, 4, 0), (72, .istore 4, 4, 0, 0), (74, .goto (-66), 8, 0, 0), (77, .return_, 0, 0, 0)]
def pcX3_traceBack : List (List pmE) := [pcX3_traceBack_0, pcX3_traceBack_1, pcX3_traceBack_2]
def pcX3_placeBefore_0 : List pmE := [(0, .aload_n 0, 0, 0, 0), (1, .getfield 46, 3, 4, 0), (4, .getfield 190, 1, 0, 0), (7, .iload_n 2, 2, 0, 0), (8, .iaload, 0, 0, 0), (9, .aload_n 0, 0, 0, 0), (10, .iload_n 1, 1, 0, 0), (11, .iload_n 2, 2, 0, 0), (12, .iload_n 3, 3, 0, 0), (13, .invokevirtual 196, 34, 4, 0), (16, .isub, 0, 0, 0), (17, .istore 4, 4, 0, 0), (19, .iconst 0, 0, 0, 0), (20, .istore 5, 5, 0, 0), (22, .iload 5, 5, 0, 0), (24, .bipush 6, 0, 0, 6), (26, .if_icmp .ge 56, 82, 0, 0), (29, .aload_n 0, 0, 0, 0), (30, .getfield 15, 3, 0, 0)]
def pcX3_placeBefore_1 : List pmE := [(33, .iload_n 2, 2, 0, 0), (34, .iload 5, 5, 0, 0), (36, .invokevirtual 193, 19, 3, 0), (39, .istore 6, 6, 0, 0), (41, .iload 6, 6, 0, 0), (43, .iconst (-1), 0, 0, -1), (44, .if_icmp .eq 32, 76, 0, 0), (47, .aload_n 0, 0, 0, 0), (48, .getfield 46, 3, 4, 0), (51, .getfield 190, 1, 0, 0), (54, .iload 6, 6, 0, 0), (56, .iaload, 0, 0, 0), (57, .aload_n 0, 0, 0, 0), (58, .getfield 15, 3, 0, 0), (61, .iload 6, 6, 0, 0), (63, .iload_n 2, 2, 0, 0)]
def pcX3_placeBefore_2 : List pmE := [(64, .invokevirtual 200, 20, 3, 0), (67, .iadd, 0, 0, 0), (68, .iload 4, 4, 0, 0), (70, .if_icmp .ne 6, 76, 0, 0), (73, .iload 6, 6, 0, 0), (75, .ireturn, 0, 0, 0), (76, .iinc 5 1, 5, 0, 1), (79, .goto (-57), 22, 0, 0), (82, .iconst (-1), 0, 0, -1), (83, .ireturn, 0, 0, 0)]
def pcX3_placeBefore : List (List pmE) := [pcX3_placeBefore_0, pcX3_placeBefore_1, pcX3_placeBefore_2]
def pcX3_tearUp_0 : List pmE := [(0, .iconst 0, 0, 0, 0), (1, .istore_n 2, 2, 0, 0), (2, .iconst 0, 0, 0, 0), (3, .istore_n 3, 3, 0, 0), (4, .iload_n 3, 3, 0, 0), (5, .aload_n 0, 0, 0, 0), (6, .getfield 203, 3, 9, 0), (9, .if_icmp .ge 57, 66, 0, 0), (12, .aload_n 0, 0, 0, 0), (13, .getfield 32, 3, 3, 0), (16, .iload_n 1, 1, 0, 0), (17, .aload_n 0, 0, 0, 0), (18, .getfield 56, 3, 8, 0), (21, .iload_n 3, 3, 0, 0), (22, .iaload, 0, 0, 0), (23, .aload_n 0, 0, 0, 0), (24, .getfield 19, 3, 1, 0), (27, .getfield 125, 0, 1, 0), (30, .invokevirtual 128, 50, 4, 0)]
def pcX3_tearUp_1 : List pmE := [(33, .istore 4, 4, 0, 0), (35, .iload 4, 4, 0, 0), (37, .ifCond .eq 23, 60, 0, 0), (40, .aload_n 0, 0, 0, 0), (41, .getfield 50, 3, 6, 0), (44, .aload_n 0, 0, 0, 0), (45, .getfield 56, 3, 8, 0), (48, .iload_n 3, 3, 0, 0), (49, .iaload, 0, 0, 0), (50, .dup2, 0, 0, 0), (51, .iaload, 0, 0, 0), (52, .iconst 5, 0, 0, 5), (53, .iadd, 0, 0, 0), (54, .iastore, 0, 0, 0), (55, .iload_n 2, 2, 0, 0), (56, .iload 4, 4, 0, 0), (58, .ior, 0, 0, 0), (59, .istore_n 2, 2, 0, 0), (60, .iinc 3 1, 3, 0, 1), (63, .goto (-59), 4, 0, 0)]
def pcX3_tearUp_2 : List pmE := [(66, .iconst 0, 0, 0, 0), (67, .istore_n 3, 3, 0, 0), (68, .iload_n 3, 3, 0, 0), (69, .aload_n 0, 0, 0, 0), (70, .getfield 19, 3, 1, 0), (73, .getfield 89, 0, 0, 0), (76, .if_icmp .ge 22, 98, 0, 0), (79, .iload_n 2, 2, 0, 0), (80, .iload_n 3, 3, 0, 0), (81, .invokestatic 97, 74, 2, 0), (84, .ifCond .eq 8, 92, 0, 0), (87, .aload_n 0, 0, 0, 0), (88, .iload_n 3, 3, 0, 0), (89, .invokevirtual 156, 38, 2, 0), (92, .iinc 3 1, 3, 0, 1), (95, .goto (-27), 68, 0, 0)]
def pcX3_tearUp_3 : List pmE := [(98, .aload_n 0, 0, 0, 0), (99, .dup, 0, 0, 0), (100, .getfield 71, 3, 11, 0), (103, .iload_n 2, 2, 0, 0), (104, .iconst (-1), 0, 0, -1), (105, .ixor, 0, 0, 0), (106, .iand, 0, 0, 0), (107, .putfield 71, 3, 11, 0), (110, .return_, 0, 0, 0)]
def pcX3_tearUp : List (List pmE) := [pcX3_tearUp_0, pcX3_tearUp_1, pcX3_tearUp_2, pcX3_tearUp_3]
def pcX3_dropRoute_0 : List pmE := [(0, .aload_n 0, 0, 0, 0), (1, .getfield 32, 3, 3, 0), (4, .iload_n 1, 1, 0, 0), (5, .invokevirtual 209, 49, 2, 0), (8, .iconst 0, 0, 0, 0), (9, .istore_n 2, 2, 0, 0), (10, .iload_n 2, 2, 0, 0), (11, .aload_n 0, 0, 0, 0), (12, .getfield 15, 3, 0, 0), (15, .getfield 37, 2, 4, 0), (18, .if_icmp .ge 23, 41, 0, 0), (21, .aload_n 0, 0, 0, 0), (22, .getfield 53, 3, 7, 0), (25, .iload_n 2, 2, 0, 0), (26, .dup2, 0, 0, 0), (27, .iaload, 0, 0, 0), (28, .iconst 1, 0, 0, 1), (29, .iload_n 1, 1, 0, 0), (30, .ishl, 0, 0, 0), (31, .iconst (-1), 0, 0, -1)]
def pcX3_dropRoute_1 : List pmE := [(32, .ixor, 0, 0, 0), (33, .iand, 0, 0, 0), (34, .iastore, 0, 0, 0), (35, .iinc 2 1, 2, 0, 1), (38, .goto (-28), 10, 0, 0), (41, .return_, 0, 0, 0)]
def pcX3_dropRoute : List (List pmE) := [pcX3_dropRoute_0, pcX3_dropRoute_1]
def pcX3_layWay_0 : List pmE := [(0, .iconst 0, 0, 0, 0), (1, .istore_n 2, 2, 0, 0), (2, .iload_n 2, 2, 0, 0), (3, .aload_n 0, 0, 0, 0), (4, .getfield 203, 3, 9, 0), (7, .if_icmp .ge 88, 95, 0, 0), (10, .aload_n 0, 0, 0, 0), (11, .getfield 32, 3, 3, 0), (14, .iload_n 1, 1, 0, 0), (15, .aload_n 0, 0, 0, 0), (16, .getfield 56, 3, 8, 0), (19, .iload_n 2, 2, 0, 0), (20, .iaload, 0, 0, 0), (21, .invokevirtual 114, 47, 3, 0), (24, .iload_n 2, 2, 0, 0), (25, .ifCond .le 64, 89, 0, 0), (28, .aload_n 0, 0, 0, 0), (29, .getfield 15, 3, 0, 0)]
def pcX3_layWay_1 : List pmE := [(32, .getfield 212, 2, 5, 0), (35, .aload_n 0, 0, 0, 0), (36, .getfield 56, 3, 8, 0), (39, .iload_n 2, 2, 0, 0), (40, .iaload, 0, 0, 0), (41, .iaload, 0, 0, 0), (42, .aload_n 0, 0, 0, 0), (43, .getfield 15, 3, 0, 0), (46, .getfield 212, 2, 5, 0), (49, .aload_n 0, 0, 0, 0), (50, .getfield 56, 3, 8, 0), (53, .iload_n 2, 2, 0, 0), (54, .iconst 1, 0, 0, 1), (55, .isub, 0, 0, 0), (56, .iaload, 0, 0, 0), (57, .iaload, 0, 0, 0), (58, .if_icmp .eq 31, 89, 0, 0), (61, .aload_n 0, 0, 0, 0), (62, .getfield 53, 3, 7, 0)]
def pcX3_layWay_2 : List pmE := [(65, .aload_n 0, 0, 0, 0), (66, .getfield 56, 3, 8, 0), (69, .iload_n 2, 2, 0, 0), (70, .iaload, 0, 0, 0), (71, .aload_n 0, 0, 0, 0), (72, .getfield 56, 3, 8, 0), (75, .iload_n 2, 2, 0, 0), (76, .iconst 1, 0, 0, 1), (77, .isub, 0, 0, 0), (78, .iaload, 0, 0, 0), (79, .dup_x1, 0, 0, 0), (82, .dup2, 0, 0, 0), (83, .iaload, 0, 0, 0), (84, .iconst 1, 0, 0, 1), (85, .iload_n 1, 1, 0, 0), (86, .ishl, 0, 0, 0), (87, .ior, 0, 0, 0), (88, .iastore, 0, 0, 0), (89, .iinc 2 1, 2, 0, 1), (92, .goto (-90), 2, 0, 0), (95, .return_, 0, 0, 0)]
def pcX3_layWay : List (List pmE) := [pcX3_layWay_0, pcX3_layWay_1, pcX3_layWay_2]
def pcX3_standingAt_0 : List pmE := [(0, .iload_n 2, 2, 0, 0), (1, .istore_n 3, 3, 0, 0), (2, .iconst 0, 0, 0, 0), (3, .istore 4, 4, 0, 0), (5, .iload 4, 4, 0, 0), (7, .aload_n 0, 0, 0, 0), (8, .getfield 15, 3, 0, 0), (11, .getfield 37, 2, 4, 0), (14, .if_icmp .ge 51, 65, 0, 0), (17, .iload_n 3, 3, 0, 0), (18, .ifCond .lt 47, 65, 0, 0), (21, .aload_n 0, 0, 0, 0), (22, .getfield 28, 3, 2, 0), (25, .getfield 173, 4, 1, 0), (28, .iload 4, 4, 0, 0), (30, .iaload, 0, 0, 0), (31, .aload_n 0, 0, 0, 0)]
def pcX3_standingAt_1 : List pmE := [(32, .getfield 32, 3, 3, 0), (35, .getfield 173, 4, 1, 0), (38, .iload 4, 4, 0, 0), (40, .iaload, 0, 0, 0), (41, .ior, 0, 0, 0), (42, .iload_n 1, 1, 0, 0), (43, .invokestatic 97, 74, 2, 0), (46, .ifCond .eq 13, 59, 0, 0), (49, .iload_n 3, 3, 0, 0), (50, .ifCond .ne 6, 56, 0, 0), (53, .iload 4, 4, 0, 0), (55, .ireturn, 0, 0, 0), (56, .iinc 3 (-1), 3, 0, -1), (59, .iinc 4 1, 4, 0, 1), (62, .goto (-57), 5, 0, 0)]
def pcX3_standingAt_2 : List pmE := [(65, .iconst (-1), 0, 0, -1), (66, .ireturn, 0, 0, 0)]
def pcX3_standingAt : List (List pmE) := [pcX3_standingAt_0, pcX3_standingAt_1, pcX3_standingAt_2]
def pcX3_clashingPlace_0 : List pmE := [(0, .iload_n 1, 1, 0, 0), (1, .istore_n 2, 2, 0, 0), (2, .iconst 0, 0, 0, 0), (3, .istore_n 3, 3, 0, 0), (4, .iload_n 3, 3, 0, 0), (5, .aload_n 0, 0, 0, 0), (6, .getfield 15, 3, 0, 0), (9, .getfield 37, 2, 4, 0), (12, .if_icmp .ge 26, 38, 0, 0), (15, .aload_n 0, 0, 0, 0), (16, .iload_n 3, 3, 0, 0), (17, .invokevirtual 220, 42, 2, 0), (20, .ifCond .eq 12, 32, 0, 0), (23, .iload_n 2, 2, 0, 0), (24, .ifCond .ne 5, 29, 0, 0), (27, .iload_n 3, 3, 0, 0), (28, .ireturn, 0, 0, 0), (29, .iinc 2 (-1), 2, 0, -1)]
def pcX3_clashingPlace_1 : List pmE := [(32, .iinc 3 1, 3, 0, 1), (35, .goto (-31), 4, 0, 0), (38, .iconst (-1), 0, 0, -1), (39, .ireturn, 0, 0, 0)]
def pcX3_clashingPlace : List (List pmE) := [pcX3_clashingPlace_0, pcX3_clashingPlace_1]
def pcX3_hasClash_0 : List pmE := [(0, .aload_n 0, 0, 0, 0), (1, .getfield 28, 3, 2, 0), (4, .getfield 173, 4, 1, 0), (7, .iload_n 1, 1, 0, 0), (8, .iaload, 0, 0, 0), (9, .aload_n 0, 0, 0, 0), (10, .getfield 32, 3, 3, 0), (13, .getfield 173, 4, 1, 0), (16, .iload_n 1, 1, 0, 0), (17, .iaload, 0, 0, 0), (18, .ior, 0, 0, 0), (19, .istore_n 2, 2, 0, 0), (20, .iconst 0, 0, 0, 0), (21, .istore_n 3, 3, 0, 0), (22, .iload_n 3, 3, 0, 0), (23, .aload_n 0, 0, 0, 0), (24, .getfield 19, 3, 1, 0), (27, .getfield 89, 0, 0, 0), (30, .if_icmp .ge 55, 85, 0, 0)]
def pcX3_hasClash_1 : List pmE := [(33, .iload_n 2, 2, 0, 0), (34, .iload_n 3, 3, 0, 0), (35, .invokestatic 97, 74, 2, 0), (38, .ifCond .eq 41, 79, 0, 0), (41, .aload_n 0, 0, 0, 0), (42, .getfield 28, 3, 2, 0), (45, .iload_n 3, 3, 0, 0), (46, .iload_n 1, 1, 0, 0), (47, .aload_n 0, 0, 0, 0), (48, .getfield 19, 3, 1, 0), (51, .getfield 125, 0, 1, 0), (54, .invokevirtual 128, 50, 4, 0), (57, .aload_n 0, 0, 0, 0), (58, .getfield 32, 3, 3, 0), (61, .iload_n 3, 3, 0, 0), (62, .iload_n 1, 1, 0, 0), (63, .aload_n 0, 0, 0, 0)]
def pcX3_hasClash_2 : List pmE := [(64, .getfield 19, 3, 1, 0), (67, .getfield 125, 0, 1, 0), (70, .invokevirtual 128, 50, 4, 0), (73, .ior, 0, 0, 0), (74, .ifCond .eq 5, 79, 0, 0), (77, .iconst 1, 0, 0, 1), (78, .ireturn, 0, 1, 0), (79, .iinc 3 1, 3, 0, 1), (82, .goto (-60), 22, 0, 0), (85, .iconst 0, 0, 0, 0), (86, .ireturn, 0, 1, 0)]
def pcX3_hasClash : List (List pmE) := [pcX3_hasClash_0, pcX3_hasClash_1, pcX3_hasClash_2]
def pcX3_openNet_0 : List pmE := [(0, .iload_n 1, 1, 0, 0), (1, .istore_n 2, 2, 0, 0), (2, .iconst 0, 0, 0, 0), (3, .istore_n 3, 3, 0, 0), (4, .iload_n 3, 3, 0, 0), (5, .aload_n 0, 0, 0, 0), (6, .getfield 19, 3, 1, 0), (9, .getfield 89, 0, 0, 0), (12, .if_icmp .ge 29, 41, 0, 0), (15, .aload_n 0, 0, 0, 0), (16, .getfield 71, 3, 11, 0), (19, .iload_n 3, 3, 0, 0), (20, .invokestatic 97, 74, 2, 0), (23, .ifCond .ne 12, 35, 0, 0), (26, .iload_n 2, 2, 0, 0), (27, .ifCond .ne 5, 32, 0, 0), (30, .iload_n 3, 3, 0, 0), (31, .ireturn, 0, 0, 0)]
def pcX3_openNet_1 : List pmE := [(32, .iinc 2 (-1), 2, 0, -1), (35, .iinc 3 1, 3, 0, 1), (38, .goto (-34), 4, 0, 0), (41, .iconst (-1), 0, 0, -1), (42, .ireturn, 0, 0, 0)]
def pcX3_openNet : List (List pmE) := [pcX3_openNet_0, pcX3_openNet_1]
def pcX3_whyOpen_0 : List pmE := [(0, .aload_n 0, 0, 0, 0), (1, .getfield 68, 3, 10, 0), (4, .iload_n 1, 1, 0, 0), (5, .invokestatic 97, 74, 2, 0), (8, .ifCond .eq 5, 13, 0, 0), (11, .iconst 1, 0, 0, 1), (12, .ireturn, 0, 0, 0), (13, .aload_n 0, 0, 0, 0), (14, .getfield 74, 3, 12, 0), (17, .iload_n 1, 1, 0, 0), (18, .invokestatic 97, 74, 2, 0), (21, .ifCond .eq 7, 28, 0, 0), (24, .iconst 2, 0, 0, 2), (25, .goto 4, 29, 0, 0), (28, .iconst 3, 0, 0, 3), (29, .ireturn, 0, 0, 0)]
def pcX3_whyOpen : List (List pmE) := [pcX3_whyOpen_0]
def pcX4_init_0 : List pmE := [(0, .aload_n 0, 0, 0, 0), (1, .nop, 0, 0, 0), (4, .aload_n 0, 0, 0, 0), (5, .aload_n 1, 1, 0, 0), (6, .putfield 7, 4, 0, 0), (9, .aload_n 0, 0, 0, 0), (10, .aload_n 1, 1, 0, 0), (11, .getfield 13, 2, 4, 0), (14, .newarray .int, 0, 0, 0), (16, .putfield 19, 4, 1, 0), (19, .aload_n 0, 0, 0, 0), (20, .aload_n 1, 1, 0, 0), (21, .getfield 13, 2, 4, 0), (24, .newarray .int, 0, 0, 0), (26, .putfield 23, 4, 2, 0), (29, .aload_n 0, 0, 0, 0), (30, .aload_n 1, 1, 0, 0), (31, .getfield 13, 2, 4, 0)]
def pcX4_init_1 : List pmE := [(34, .newarray .int, 0, 0, 0), (36, .putfield 26, 4, 3, 0), (39, .return_, 0, 0, 0)]
def pcX4_init : List (List pmE) := [pcX4_init_0, pcX4_init_1]
def pcX4_clear_0 : List pmE := [(0, .aload_n 0, 0, 0, 0), (1, .getfield 19, 4, 1, 0), (4, .iconst 0, 0, 0, 0), (5, .invokestatic 29, 1, 2, 0), (8, .aload_n 0, 0, 0, 0), (9, .getfield 23, 4, 2, 0), (12, .iconst 0, 0, 0, 0), (13, .invokestatic 29, 1, 2, 0), (16, .aload_n 0, 0, 0, 0), (17, .getfield 26, 4, 3, 0), (20, .iconst 0, 0, 0, 0), (21, .invokestatic 29, 1, 2, 0), (24, .return_, 0, 0, 0)]
def pcX4_clear : List (List pmE) := [pcX4_clear_0]
def pcX4_add_0 : List pmE := [(0, .aload_n 0, 0, 0, 0), (1, .getfield 7, 4, 0, 0), (4, .getfield 35, 2, 8, 0), (7, .aload_n 0, 0, 0, 0), (8, .getfield 7, 4, 0, 0), (11, .getfield 38, 2, 5, 0), (14, .iload_n 2, 2, 0, 0), (15, .iaload, 0, 0, 0), (16, .iaload, 0, 0, 0), (17, .istore_n 3, 3, 0, 0), (18, .aload_n 0, 0, 0, 0), (19, .getfield 19, 4, 1, 0), (22, .iload_n 2, 2, 0, 0), (23, .dup2, 0, 0, 0), (24, .iaload, 0, 0, 0), (25, .iconst 1, 0, 0, 1), (26, .iload_n 1, 1, 0, 0), (27, .ishl, 0, 0, 0), (28, .ior, 0, 0, 0), (29, .iastore, 0, 0, 0), (30, .aload_n 0, 0, 0, 0), (31, .aload_n 0, 0, 0, 0)]
def pcX4_add_1 : List pmE := [(32, .getfield 23, 4, 2, 0), (35, .iload_n 1, 1, 0, 0), (36, .iload_n 2, 2, 0, 0), (37, .iload_n 3, 3, 0, 0), (38, .invokevirtual 41, 48, 5, 0), (41, .aload_n 0, 0, 0, 0), (42, .aload_n 0, 0, 0, 0), (43, .getfield 26, 4, 3, 0), (46, .iload_n 1, 1, 0, 0), (47, .iload_n 2, 2, 0, 0), (48, .iload_n 3, 3, 0, 0), (49, .iconst 1, 0, 0, 1), (50, .iadd, 0, 0, 0), (51, .invokevirtual 41, 48, 5, 0), (54, .return_, 0, 0, 0)]
def pcX4_add : List (List pmE) := [pcX4_add_0, pcX4_add_1]
def pcX4_mark_0 : List pmE := [(0, .aload_n 0, 0, 0, 0), (1, .getfield 7, 4, 0, 0), (4, .getfield 38, 2, 5, 0), (7, .iload_n 3, 3, 0, 0), (8, .iaload, 0, 0, 0), (9, .istore 5, 5, 0, 0), (11, .iconst 0, 0, 0, 0), (12, .aload_n 0, 0, 0, 0), (13, .getfield 7, 4, 0, 0), (16, .getfield 45, 2, 6, 0), (19, .iload_n 3, 3, 0, 0), (20, .iaload, 0, 0, 0), (21, .iload 4, 4, 0, 0), (23, .isub, 0, 0, 0), (24, .swap, 0, 0, 0), (27, .istore 6, 6, 0, 0), (29, .aload_n 0, 0, 0, 0), (30, .getfield 7, 4, 0, 0)]
def pcX4_mark_1 : List pmE := [(33, .getfield 54, 2, 1, 0), (36, .iconst 1, 0, 0, 1), (37, .isub, 0, 0, 0), (38, .aload_n 0, 0, 0, 0), (39, .getfield 7, 4, 0, 0), (42, .getfield 45, 2, 6, 0), (45, .iload_n 3, 3, 0, 0), (46, .iaload, 0, 0, 0), (47, .iload 4, 4, 0, 0), (49, .iadd, 0, 0, 0), (50, .dup_x1, 0, 0, 0), (53, .istore 7, 7, 0, 0), (55, .iconst 0, 0, 0, 0), (56, .aload_n 0, 0, 0, 0), (57, .getfield 7, 4, 0, 0), (60, .getfield 60, 2, 7, 0), (63, .iload_n 3, 3, 0, 0)]
def pcX4_mark_2 : List pmE := [(64, .iaload, 0, 0, 0), (65, .iload 4, 4, 0, 0), (67, .isub, 0, 0, 0), (68, .swap, 0, 0, 0), (71, .istore 8, 8, 0, 0), (73, .aload_n 0, 0, 0, 0), (74, .getfield 7, 4, 0, 0), (77, .getfield 63, 2, 2, 0), (80, .iconst 1, 0, 0, 1), (81, .isub, 0, 0, 0), (82, .aload_n 0, 0, 0, 0), (83, .getfield 7, 4, 0, 0), (86, .getfield 60, 2, 7, 0), (89, .iload_n 3, 3, 0, 0), (90, .iaload, 0, 0, 0), (91, .iload 4, 4, 0, 0), (93, .iadd, 0, 0, 0), (94, .dup_x1, 0, 0, 0)]
def pcX4_mark_3 : List pmE := [(97, .istore 9, 9, 0, 0), (99, .iload 8, 8, 0, 0), (101, .istore 10, 10, 0, 0), (103, .iload 10, 10, 0, 0), (105, .iload 9, 9, 0, 0), (107, .if_icmp .gt 47, 154, 0, 0), (110, .iload 6, 6, 0, 0), (112, .istore 11, 11, 0, 0), (114, .iload 11, 11, 0, 0), (116, .iload 7, 7, 0, 0), (118, .if_icmp .gt 30, 148, 0, 0), (121, .aload_n 1, 1, 0, 0), (122, .aload_n 0, 0, 0, 0), (123, .getfield 7, 4, 0, 0), (126, .iload 5, 5, 0, 0)]
def pcX4_mark_4 : List pmE := [(128, .iload 11, 11, 0, 0), (130, .iload 10, 10, 0, 0), (132, .invokevirtual 66, 17, 4, 0), (135, .dup2, 0, 0, 0), (136, .iaload, 0, 0, 0), (137, .iconst 1, 0, 0, 1), (138, .iload_n 2, 2, 0, 0), (139, .ishl, 0, 0, 0), (140, .ior, 0, 0, 0), (141, .iastore, 0, 0, 0), (142, .iinc 11 1, 11, 0, 1), (145, .goto (-31), 114, 0, 0), (148, .iinc 10 1, 10, 0, 1), (151, .goto (-48), 103, 0, 0), (154, .return_, 0, 0, 0)]
def pcX4_mark : List (List pmE) := [pcX4_mark_0, pcX4_mark_1, pcX4_mark_2, pcX4_mark_3, pcX4_mark_4]
def pcX4_drop_0 : List pmE := [(0, .iconst 1, 0, 0, 1), (1, .iload_n 1, 1, 0, 0), (2, .ishl, 0, 0, 0), (3, .iconst (-1), 0, 0, -1), (4, .ixor, 0, 0, 0), (5, .istore_n 2, 2, 0, 0), (6, .iconst 0, 0, 0, 0), (7, .istore_n 3, 3, 0, 0), (8, .iload_n 3, 3, 0, 0), (9, .aload_n 0, 0, 0, 0), (10, .getfield 7, 4, 0, 0), (13, .getfield 13, 2, 4, 0), (16, .if_icmp .ge 39, 55, 0, 0), (19, .aload_n 0, 0, 0, 0), (20, .getfield 19, 4, 1, 0), (23, .iload_n 3, 3, 0, 0), (24, .dup2, 0, 0, 0), (25, .iaload, 0, 0, 0), (26, .iload_n 2, 2, 0, 0), (27, .iand, 0, 0, 0), (28, .iastore, 0, 0, 0), (29, .aload_n 0, 0, 0, 0), (30, .getfield 23, 4, 2, 0)]
def pcX4_drop_1 : List pmE := [(33, .iload_n 3, 3, 0, 0), (34, .dup2, 0, 0, 0), (35, .iaload, 0, 0, 0), (36, .iload_n 2, 2, 0, 0), (37, .iand, 0, 0, 0), (38, .iastore, 0, 0, 0), (39, .aload_n 0, 0, 0, 0), (40, .getfield 26, 4, 3, 0), (43, .iload_n 3, 3, 0, 0), (44, .dup2, 0, 0, 0), (45, .iaload, 0, 0, 0), (46, .iload_n 2, 2, 0, 0), (47, .iand, 0, 0, 0), (48, .iastore, 0, 0, 0), (49, .iinc 3 1, 3, 0, 1), (52, .goto (-44), 8, 0, 0), (55, .return_, 0, 0, 0)]
def pcX4_drop : List (List pmE) := [pcX4_drop_0, pcX4_drop_1]
def pcX4_clashing_0 : List pmE := [(0, .iconst 1, 0, 0, 1), (1, .iload_n 1, 1, 0, 0), (2, .ishl, 0, 0, 0), (3, .istore 4, 4, 0, 0), (5, .iload_n 3, 3, 0, 0), (6, .iload 4, 4, 0, 0), (8, .iand, 0, 0, 0), (9, .ifCond .eq 12, 21, 0, 0), (12, .aload_n 0, 0, 0, 0), (13, .getfield 26, 4, 3, 0), (16, .iload_n 2, 2, 0, 0), (17, .iaload, 0, 0, 0), (18, .goto 18, 36, 0, 0), (21, .aload_n 0, 0, 0, 0), (22, .getfield 23, 4, 2, 0), (25, .iload_n 2, 2, 0, 0), (26, .iaload, 0, 0, 0), (27, .aload_n 0, 0, 0, 0), (28, .getfield 26, 4, 3, 0), (31, .iload_n 2, 2, 0, 0)]
def pcX4_clashing_1 : List pmE := [(32, .iaload, 0, 0, 0), (33, .iload_n 3, 3, 0, 0), (34, .iand, 0, 0, 0), (35, .ior, 0, 0, 0), (36, .istore 5, 5, 0, 0), (38, .iload 5, 5, 0, 0), (40, .iload 4, 4, 0, 0), (42, .iconst (-1), 0, 0, -1), (43, .ixor, 0, 0, 0), (44, .iand, 0, 0, 0), (45, .ireturn, 0, 0, 0)]
def pcX4_clashing : List (List pmE) := [pcX4_clashing_0, pcX4_clashing_1]
def pcX5_init_0 : List pmE := [(0, .aload_n 0, 0, 0, 0), (1, .nop, 0, 0, 0), (4, .iconst 1, 0, 0, 1), (5, .iconst 3, 0, 0, 3), (6, .iload_n 1, 1, 0, 0), (7, .dup_x1, 0, 0, 0), (10, .swap, 0, 0, 0), (13, .istore 6, 6, 0, 0), (15, .lconst 1, 1, 0, 0), (16, .ldc2_w 18, 24, 0, 0), (19, .lload_n 2, 2, 0, 0), (20, .dup2_x1, 0, 0, 0), (23, .dup_x2, 0, 0, 0), (26, .l2i, 0, 0, 0), (27, .istore 7, 7, 0, 0), (29, .lconst 1, 1, 0, 0), (30, .ldc2_w 18, 24, 0, 0)]
def pcX5_init_1 : List pmE := [(33, .lload 4, 4, 0, 0), (35, .dup2_x1, 0, 0, 0), (38, .dup_x2, 0, 0, 0), (41, .l2i, 0, 0, 0), (42, .istore 8, 8, 0, 0), (44, .aload_n 0, 0, 0, 0), (45, .new 25, 2, 0, 0), (48, .dup, 0, 0, 0), (49, .iload 6, 6, 0, 0), (51, .iload 7, 7, 0, 0), (53, .iload 8, 8, 0, 0), (55, .invokespecial 27, 15, 4, 0), (58, .putfield 30, 5, 0, 0), (61, .aload_n 0, 0, 0, 0), (62, .new 34, 0, 0, 0)]
def pcX5_init_2 : List pmE := [(65, .dup, 0, 0, 0), (66, .invokespecial 36, 2, 1, 0), (69, .putfield 37, 5, 1, 0), (72, .aload_n 0, 0, 0, 0), (73, .new 41, 3, 0, 0), (76, .dup, 0, 0, 0), (77, .aload_n 0, 0, 0, 0), (78, .getfield 30, 5, 0, 0), (81, .aload_n 0, 0, 0, 0), (82, .getfield 37, 5, 1, 0), (85, .invokespecial 43, 21, 3, 0), (88, .putfield 46, 5, 2, 0), (91, .aload_n 0, 0, 0, 0), (92, .iconst 0, 0, 0, 0), (93, .putfield 50, 5, 3, 0)]
def pcX5_init_3 : List pmE := [(96, .return_, 0, 0, 0)]
def pcX5_init : List (List pmE) := [pcX5_init_0, pcX5_init_1, pcX5_init_2, pcX5_init_3]
def pcX5_rule_0 : List pmE := [(0, .aload_n 0, 0, 0, 0), (1, .iload_n 2, 2, 0, 0), (2, .invokevirtual 54, 67, 2, 0), (5, .aload_n 0, 0, 0, 0), (6, .iload_n 1, 1, 0, 0), (7, .invokevirtual 58, 66, 2, 0), (10, .astore 5, 5, 0, 0), (12, .iload_n 1, 1, 0, 0), (13, .iconst 2, 0, 0, 2), (14, .if_icmp .ne 7, 21, 0, 0), (17, .lconst 1, 1, 0, 0), (18, .goto 4, 22, 0, 0), (21, .lconst 0, 0, 0, 0), (22, .lstore 6, 6, 0, 0), (24, .iload_n 1, 1, 0, 0), (25, .ifCond .ne 9, 34, 0, 0), (28, .ldc2_w 62, 2, 0, 0), (31, .goto 6, 37, 0, 0)]
def pcX5_rule_1 : List pmE := [(34, .ldc2_w 64, 50, 0, 0), (37, .lstore 8, 8, 0, 0), (39, .lload_n 3, 3, 0, 0), (40, .lload 6, 6, 0, 0), (42, .lcmp, 0, 0, 0), (43, .ifCond .lt 10, 53, 0, 0), (46, .lload_n 3, 3, 0, 0), (47, .lload 8, 8, 0, 0), (49, .lcmp, 0, 0, 0), (50, .ifCond .le 13, 63, 0, 0), (53, .athrow, 1, 0, 0), (63, .aload 5, 5, 0, 0)]
def pcX5_rule_2 : List pmE := [(65, .iload_n 2, 2, 0, 0), (66, .iaload, 0, 0, 0), (67, .lload_n 3, 3, 0, 0), (68, .l2i, 0, 0, 0), (69, .if_icmp .ne 5, 74, 0, 0), (72, .iconst 0, 0, 0, 0), (73, .ireturn, 0, 1, 0), (74, .aload 5, 5, 0, 0), (76, .iload_n 2, 2, 0, 0), (77, .lload_n 3, 3, 0, 0), (78, .l2i, 0, 0, 0), (79, .iastore, 0, 0, 0), (80, .aload_n 0, 0, 0, 0), (81, .iconst 0, 0, 0, 0), (82, .putfield 50, 5, 3, 0), (85, .iconst 1, 0, 0, 1), (86, .ireturn, 0, 1, 0)]
def pcX5_rule : List (List pmE) := [pcX5_rule_0, pcX5_rule_1, pcX5_rule_2]
def pcX5_net_0 : List pmE := [(0, .aload_n 0, 0, 0, 0), (1, .getfield 37, 5, 1, 0), (4, .getfield 73, 0, 0, 0), (7, .bipush 16, 0, 0, 16), (9, .if_icmp .lt 13, 22, 0, 0), (12, .athrow, 2, 0, 0), (22, .aload_n 0, 0, 0, 0), (23, .iconst 0, 0, 0, 0), (24, .putfield 50, 5, 3, 0), (27, .aload_n 0, 0, 0, 0), (28, .getfield 37, 5, 1, 0), (31, .invokevirtual 82, 3, 1, 0)]
def pcX5_net_1 : List pmE := [(34, .ireturn, 0, 0, 0)]
def pcX5_net : List (List pmE) := [pcX5_net_0, pcX5_net_1]
def pcX5_pin_0 : List pmE := [(0, .aload_n 0, 0, 0, 0), (1, .iload_n 1, 1, 0, 0), (2, .invokevirtual 86, 69, 2, 0), (5, .aload_n 0, 0, 0, 0), (6, .getfield 37, 5, 1, 0), (9, .getfield 89, 0, 2, 0), (12, .bipush 40, 0, 0, 40), (14, .if_icmp .lt 13, 27, 0, 0), (17, .athrow, 2, 0, 0), (27, .aload_n 0, 0, 0, 0), (28, .iconst 0, 0, 0, 0), (29, .putfield 50, 5, 3, 0)]
def pcX5_pin_1 : List pmE := [(32, .aload_n 0, 0, 0, 0), (33, .getfield 37, 5, 1, 0), (36, .iload_n 1, 1, 0, 0), (37, .invokevirtual 94, 4, 2, 0), (40, .ireturn, 0, 0, 0)]
def pcX5_pin : List (List pmE) := [pcX5_pin_0, pcX5_pin_1]
def pcX5_access_0 : List pmE := [(0, .aload_n 0, 0, 0, 0), (1, .iload_n 1, 1, 0, 0), (2, .invokevirtual 98, 70, 2, 0), (5, .aload_n 0, 0, 0, 0), (6, .iload_n 2, 2, 0, 0), (7, .lload_n 3, 3, 0, 0), (8, .lload 5, 5, 0, 0), (10, .invokevirtual 101, 68, 4, 0), (13, .aload_n 0, 0, 0, 0), (14, .getfield 37, 5, 1, 0), (17, .getfield 105, 0, 5, 0), (20, .iload_n 1, 1, 0, 0), (21, .iaload, 0, 0, 0), (22, .iconst 4, 0, 0, 4), (23, .if_icmp .lt 13, 36, 0, 0), (26, .athrow, 2, 0, 0)]
def pcX5_access_1 : List pmE := [(36, .aload_n 0, 0, 0, 0), (37, .getfield 30, 5, 0, 0), (40, .iload_n 2, 2, 0, 0), (41, .lload_n 3, 3, 0, 0), (42, .l2i, 0, 0, 0), (43, .lload 5, 5, 0, 0), (45, .l2i, 0, 0, 0), (46, .invokevirtual 111, 17, 4, 0), (49, .istore 7, 7, 0, 0), (51, .aload_n 0, 0, 0, 0), (52, .getfield 37, 5, 1, 0), (55, .iload_n 1, 1, 0, 0), (56, .iload 7, 7, 0, 0), (58, .invokevirtual 115, 6, 3, 0), (61, .ifCond .eq 5, 66, 0, 0)]
def pcX5_access_2 : List pmE := [(64, .iconst 0, 0, 0, 0), (65, .ireturn, 0, 1, 0), (66, .aload_n 0, 0, 0, 0), (67, .getfield 37, 5, 1, 0), (70, .iload_n 1, 1, 0, 0), (71, .iload 7, 7, 0, 0), (73, .invokevirtual 119, 7, 3, 0), (76, .aload_n 0, 0, 0, 0), (77, .iconst 0, 0, 0, 0), (78, .putfield 50, 5, 3, 0), (81, .iconst 1, 0, 0, 1), (82, .ireturn, 0, 1, 0)]
def pcX5_access : List (List pmE) := [pcX5_access_0, pcX5_access_1, pcX5_access_2]
def pcX5_bar_0 : List pmE := [(0, .aload_n 0, 0, 0, 0), (1, .iload_n 1, 1, 0, 0), (2, .invokevirtual 54, 67, 2, 0), (5, .lload_n 2, 2, 0, 0), (6, .lconst 0, 0, 0, 0), (7, .lcmp, 0, 0, 0), (8, .ifCond .lt 53, 61, 0, 0), (11, .lload_n 2, 2, 0, 0), (12, .lload 6, 6, 0, 0), (14, .lcmp, 0, 0, 0), (15, .ifCond .gt 46, 61, 0, 0), (18, .lload 6, 6, 0, 0), (20, .aload_n 0, 0, 0, 0), (21, .getfield 30, 5, 0, 0), (24, .getfield 123, 2, 1, 0), (27, .i2l, 0, 0, 0), (28, .lcmp, 0, 0, 0), (29, .ifCond .ge 32, 61, 0, 0)]
def pcX5_bar_1 : List pmE := [(32, .lload 4, 4, 0, 0), (34, .lconst 0, 0, 0, 0), (35, .lcmp, 0, 0, 0), (36, .ifCond .lt 25, 61, 0, 0), (39, .lload 4, 4, 0, 0), (41, .lload 8, 8, 0, 0), (43, .lcmp, 0, 0, 0), (44, .ifCond .gt 17, 61, 0, 0), (47, .lload 8, 8, 0, 0), (49, .aload_n 0, 0, 0, 0), (50, .getfield 30, 5, 0, 0), (53, .getfield 126, 2, 2, 0), (56, .i2l, 0, 0, 0), (57, .lcmp, 0, 0, 0), (58, .ifCond .lt 13, 71, 0, 0), (61, .athrow, 1, 0, 0)]
def pcX5_bar_2 : List pmE := [(71, .iconst 0, 0, 0, 0), (72, .istore 10, 10, 0, 0), (74, .lload 4, 4, 0, 0), (76, .l2i, 0, 0, 0), (77, .istore 11, 11, 0, 0), (79, .iload 11, 11, 0, 0), (81, .lload 8, 8, 0, 0), (83, .l2i, 0, 0, 0), (84, .if_icmp .gt 51, 135, 0, 0), (87, .lload_n 2, 2, 0, 0), (88, .l2i, 0, 0, 0), (89, .istore 12, 12, 0, 0), (91, .iload 12, 12, 0, 0), (93, .lload 6, 6, 0, 0), (95, .l2i, 0, 0, 0)]
def pcX5_bar_3 : List pmE := [(96, .if_icmp .gt 33, 129, 0, 0), (99, .iload 10, 10, 0, 0), (101, .aload_n 0, 0, 0, 0), (102, .getfield 30, 5, 0, 0), (105, .aload_n 0, 0, 0, 0), (106, .getfield 30, 5, 0, 0), (109, .iload_n 1, 1, 0, 0), (110, .iload 12, 12, 0, 0), (112, .iload 11, 11, 0, 0), (114, .invokevirtual 111, 17, 4, 0), (117, .invokevirtual 131, 18, 2, 0), (120, .ior, 0, 0, 0), (121, .istore 10, 10, 0, 0), (123, .iinc 12 1, 12, 0, 1), (126, .goto (-35), 91, 0, 0)]
def pcX5_bar_4 : List pmE := [(129, .iinc 11 1, 11, 0, 1), (132, .goto (-53), 79, 0, 0), (135, .iload 10, 10, 0, 0), (137, .ifCond .eq 8, 145, 0, 0), (140, .aload_n 0, 0, 0, 0), (141, .iconst 0, 0, 0, 0), (142, .putfield 50, 5, 3, 0), (145, .iload 10, 10, 0, 0), (147, .ireturn, 0, 1, 0)]
def pcX5_bar : List (List pmE) := [pcX5_bar_0, pcX5_bar_1, pcX5_bar_2, pcX5_bar_3, pcX5_bar_4]
def pcX5_shield_0 : List pmE := [(0, .aload_n 0, 0, 0, 0), (1, .iload_n 1, 1, 0, 0), (2, .invokevirtual 86, 69, 2, 0), (5, .aload_n 0, 0, 0, 0), (6, .iconst 0, 0, 0, 0), (7, .putfield 50, 5, 3, 0), (10, .aload_n 0, 0, 0, 0), (11, .getfield 37, 5, 1, 0), (14, .dup, 0, 0, 0), (15, .getfield 135, 0, 1, 0), (18, .iconst 1, 0, 0, 1), (19, .iload_n 1, 1, 0, 0), (20, .ishl, 0, 0, 0), (21, .ixor, 0, 0, 0), (22, .putfield 135, 0, 1, 0), (25, .aload_n 0, 0, 0, 0), (26, .getfield 37, 5, 1, 0), (29, .getfield 135, 0, 1, 0)]
def pcX5_shield_1 : List pmE := [(32, .iload_n 1, 1, 0, 0), (33, .invokestatic 138, 74, 2, 0), (36, .ireturn, 0, 1, 0)]
def pcX5_shield : List (List pmE) := [pcX5_shield_0, pcX5_shield_1]
def pcX5_run_0 : List pmE := [(0, .iload_n 1, 1, 0, 0), (1, .ifCond .lt 9, 10, 0, 0), (4, .iload_n 1, 1, 0, 0), (5, .bipush 8, 0, 0, 8), (7, .if_icmp .le 13, 20, 0, 0), (10, .athrow, 1, 0, 0), (20, .aload_n 0, 0, 0, 0), (21, .getfield 46, 5, 2, 0), (24, .invokevirtual 143, 22, 1, 0), (27, .aload_n 0, 0, 0, 0), (28, .getfield 46, 5, 2, 0), (31, .iload_n 1, 1, 0, 0)]
def pcX5_run_1 : List pmE := [(32, .invokevirtual 146, 25, 2, 0), (35, .aload_n 0, 0, 0, 0), (36, .iconst 1, 0, 0, 1), (37, .putfield 50, 5, 3, 0), (40, .aload_n 0, 0, 0, 0), (41, .getfield 37, 5, 1, 0), (44, .getfield 73, 0, 0, 0), (47, .aload_n 0, 0, 0, 0), (48, .getfield 46, 5, 2, 0), (51, .getfield 149, 3, 11, 0), (54, .invokestatic 152, 0, 1, 0), (57, .isub, 0, 0, 0), (58, .ireturn, 0, 0, 0)]
def pcX5_run : List (List pmE) := [pcX5_run_0, pcX5_run_1]
def pcX5_piece_0 : List pmE := [(0, .aload_n 0, 0, 0, 0), (1, .iload_n 1, 1, 0, 0), (2, .invokevirtual 86, 69, 2, 0), (5, .aload_n 0, 0, 0, 0), (6, .iload_n 3, 3, 0, 0), (7, .iconst 4, 0, 0, 4), (8, .invokevirtual 157, 71, 3, 0), (11, .aload_n 0, 0, 0, 0), (12, .invokevirtual 160, 73, 1, 0), (15, .aload_n 0, 0, 0, 0), (16, .getfield 46, 5, 2, 0), (19, .iload_n 1, 1, 0, 0), (20, .iload_n 2, 2, 0, 0), (21, .invokevirtual 163, 40, 3, 0), (24, .istore 4, 4, 0, 0), (26, .iload 4, 4, 0, 0), (28, .iconst (-1), 0, 0, -1), (29, .if_icmp .ne 13, 42, 0, 0)]
def pcX5_piece_1 : List pmE := [(32, .athrow, 0, 0, 0), (42, .iload_n 3, 3, 0, 0), (43, .tableswitch 58 0 2 #[25, 36, 47], 25, 0, 0)]
def pcX5_piece_2 : List pmE := [(68, .aload_n 0, 0, 0, 0), (69, .getfield 30, 5, 0, 0), (72, .getfield 171, 2, 5, 0), (75, .iload 4, 4, 0, 0), (77, .iaload, 0, 0, 0), (78, .ireturn, 0, 0, 0), (79, .aload_n 0, 0, 0, 0), (80, .getfield 30, 5, 0, 0), (83, .getfield 174, 2, 6, 0), (86, .iload 4, 4, 0, 0), (88, .iaload, 0, 0, 0), (89, .ireturn, 0, 0, 0), (90, .aload_n 0, 0, 0, 0), (91, .getfield 30, 5, 0, 0), (94, .getfield 177, 2, 7, 0)]
def pcX5_piece_3 : List pmE := [(97, .iload 4, 4, 0, 0), (99, .iaload, 0, 0, 0), (100, .ireturn, 0, 0, 0), (101, .aload_n 0, 0, 0, 0), (102, .getfield 46, 5, 2, 0), (105, .getfield 180, 3, 7, 0), (108, .iload 4, 4, 0, 0), (110, .iaload, 0, 0, 0), (111, .iload_n 1, 1, 0, 0), (112, .invokestatic 138, 74, 2, 0), (115, .ifCond .eq 7, 122, 0, 0), (118, .iconst 1, 0, 0, 1), (119, .goto 4, 123, 0, 0), (122, .iconst 0, 0, 0, 0), (123, .ireturn, 0, 0, 0)]
def pcX5_piece : List (List pmE) := [pcX5_piece_0, pcX5_piece_1, pcX5_piece_2, pcX5_piece_3]
def pcX5_chosen_0 : List pmE := [(0, .aload_n 0, 0, 0, 0), (1, .iload_n 1, 1, 0, 0), (2, .invokevirtual 98, 70, 2, 0), (5, .aload_n 0, 0, 0, 0), (6, .invokevirtual 160, 73, 1, 0), (9, .aload_n 0, 0, 0, 0), (10, .getfield 46, 5, 2, 0), (13, .getfield 183, 3, 5, 0), (16, .iload_n 1, 1, 0, 0), (17, .iaload, 0, 0, 0), (18, .ireturn, 0, 0, 0)]
def pcX5_chosen : List (List pmE) := [pcX5_chosen_0]
def pcX5_open_0 : List pmE := [(0, .aload_n 0, 0, 0, 0), (1, .iload_n 2, 2, 0, 0), (2, .iconst 2, 0, 0, 2), (3, .invokevirtual 157, 71, 3, 0), (6, .aload_n 0, 0, 0, 0), (7, .iload_n 1, 1, 0, 0), (8, .invokevirtual 186, 72, 2, 0), (11, .aload_n 0, 0, 0, 0), (12, .invokevirtual 160, 73, 1, 0), (15, .aload_n 0, 0, 0, 0), (16, .getfield 46, 5, 2, 0), (19, .iload_n 1, 1, 0, 0), (20, .invokevirtual 189, 43, 2, 0), (23, .istore_n 3, 3, 0, 0), (24, .iload_n 3, 3, 0, 0), (25, .iconst (-1), 0, 0, -1), (26, .if_icmp .eq 7, 33, 0, 0), (29, .iload_n 2, 2, 0, 0), (30, .ifCond .ne 5, 35, 0, 0)]
def pcX5_open_1 : List pmE := [(33, .iload_n 3, 3, 0, 0), (34, .ireturn, 0, 0, 0), (35, .aload_n 0, 0, 0, 0), (36, .getfield 46, 5, 2, 0), (39, .iload_n 3, 3, 0, 0), (40, .invokevirtual 192, 44, 2, 0), (43, .ireturn, 0, 0, 0)]
def pcX5_open : List (List pmE) := [pcX5_open_0, pcX5_open_1]
def pcX5_joined_0 : List pmE := [(0, .aload_n 0, 0, 0, 0), (1, .iload_n 1, 1, 0, 0), (2, .invokevirtual 86, 69, 2, 0), (5, .aload_n 0, 0, 0, 0), (6, .invokevirtual 160, 73, 1, 0), (9, .aload_n 0, 0, 0, 0), (10, .getfield 46, 5, 2, 0), (13, .getfield 149, 3, 11, 0), (16, .iload_n 1, 1, 0, 0), (17, .invokestatic 138, 74, 2, 0), (20, .ireturn, 0, 1, 0)]
def pcX5_joined : List (List pmE) := [pcX5_joined_0]
def pcX5_broken_0 : List pmE := [(0, .aload_n 0, 0, 0, 0), (1, .iload_n 1, 1, 0, 0), (2, .invokevirtual 186, 72, 2, 0), (5, .aload_n 0, 0, 0, 0), (6, .invokevirtual 160, 73, 1, 0), (9, .aload_n 0, 0, 0, 0), (10, .getfield 46, 5, 2, 0), (13, .iload_n 1, 1, 0, 0), (14, .invokevirtual 195, 41, 2, 0), (17, .ireturn, 0, 0, 0)]
def pcX5_broken : List (List pmE) := [pcX5_broken_0]
def pcX5_history_0 : List pmE := [(0, .aload_n 0, 0, 0, 0), (1, .iload_n 1, 1, 0, 0), (2, .lload_n 2, 2, 0, 0), (3, .lload 4, 4, 0, 0), (5, .invokevirtual 101, 68, 4, 0), (8, .aload_n 0, 0, 0, 0), (9, .invokevirtual 160, 73, 1, 0), (12, .aload_n 0, 0, 0, 0), (13, .getfield 46, 5, 2, 0), (16, .getfield 198, 3, 6, 0), (19, .aload_n 0, 0, 0, 0), (20, .getfield 30, 5, 0, 0), (23, .iload_n 1, 1, 0, 0), (24, .lload_n 2, 2, 0, 0), (25, .l2i, 0, 0, 0), (26, .lload 4, 4, 0, 0), (28, .l2i, 0, 0, 0), (29, .invokevirtual 111, 17, 4, 0)]
def pcX5_history_1 : List pmE := [(32, .iaload, 0, 0, 0), (33, .ireturn, 0, 0, 0)]
def pcX5_history : List (List pmE) := [pcX5_history_0, pcX5_history_1]
def pcX5_count_0 : List pmE := [(0, .aload_n 0, 0, 0, 0), (1, .iload_n 1, 1, 0, 0), (2, .bipush 6, 0, 0, 6), (4, .invokevirtual 157, 71, 3, 0), (7, .iload_n 1, 1, 0, 0), (8, .tableswitch 98 0 4 #[36, 44, 52, 60, 79], 36, 0, 0)]
def pcX5_count_1 : List pmE := [(44, .aload_n 0, 0, 0, 0), (45, .getfield 37, 5, 1, 0), (48, .getfield 73, 0, 0, 0), (51, .ireturn, 0, 0, 0), (52, .aload_n 0, 0, 0, 0), (53, .getfield 37, 5, 1, 0), (56, .getfield 89, 0, 2, 0), (59, .ireturn, 0, 0, 0), (60, .aload_n 0, 0, 0, 0), (61, .getfield 30, 5, 0, 0)]
def pcX5_count_2 : List pmE := [(64, .getfield 201, 2, 12, 0), (67, .ireturn, 0, 0, 0), (68, .aload_n 0, 0, 0, 0), (69, .getfield 50, 5, 3, 0), (72, .ifCond .eq 13, 85, 0, 0), (75, .aload_n 0, 0, 0, 0), (76, .getfield 46, 5, 2, 0), (79, .getfield 204, 3, 13, 0), (82, .goto 4, 86, 0, 0), (85, .iconst 0, 0, 0, 0), (86, .ireturn, 0, 0, 0), (87, .aload_n 0, 0, 0, 0), (88, .getfield 50, 5, 3, 0), (91, .ifCond .eq 13, 104, 0, 0), (94, .aload_n 0, 0, 0, 0), (95, .getfield 46, 5, 2, 0)]
def pcX5_count_3 : List pmE := [(98, .getfield 207, 3, 14, 0), (101, .goto 4, 105, 0, 0), (104, .iconst 0, 0, 0, 0), (105, .ireturn, 0, 0, 0), (106, .aload_n 0, 0, 0, 0), (107, .getfield 50, 5, 3, 0), (110, .ifCond .eq 13, 123, 0, 0), (113, .aload_n 0, 0, 0, 0), (114, .getfield 46, 5, 2, 0), (117, .getfield 210, 3, 15, 0), (120, .goto 4, 124, 0, 0), (123, .iconst 0, 0, 0, 0), (124, .ireturn, 0, 0, 0)]
def pcX5_count : List (List pmE) := [pcX5_count_0, pcX5_count_1, pcX5_count_2, pcX5_count_3]
def pcX5_rulesOf_0 : List pmE := [(0, .iload_n 1, 1, 0, 0), (1, .tableswitch 51 0 2 #[27, 35, 43], 27, 0, 0), (28, .aload_n 0, 0, 0, 0), (29, .getfield 30, 5, 0, 0)]
def pcX5_rulesOf_1 : List pmE := [(32, .getfield 213, 2, 8, 0), (35, .areturn, 0, 0, 0), (36, .aload_n 0, 0, 0, 0), (37, .getfield 30, 5, 0, 0), (40, .getfield 216, 2, 9, 0), (43, .areturn, 0, 0, 0), (44, .aload_n 0, 0, 0, 0), (45, .getfield 30, 5, 0, 0), (48, .getfield 219, 2, 10, 0), (51, .areturn, 0, 0, 0), (52, .athrow, 1, 0, 0)]
def pcX5_rulesOf : List (List pmE) := [pcX5_rulesOf_0, pcX5_rulesOf_1]
def pcX5_needLayer_0 : List pmE := [(0, .iload_n 1, 1, 0, 0), (1, .ifCond .lt 14, 15, 0, 0), (4, .iload_n 1, 1, 0, 0), (5, .aload_n 0, 0, 0, 0), (6, .getfield 30, 5, 0, 0), (9, .getfield 224, 2, 0, 0), (12, .if_icmp .lt 13, 25, 0, 0), (15, .athrow, 0, 0, 0), (25, .return_, 0, 0, 0)]
def pcX5_needLayer : List (List pmE) := [pcX5_needLayer_0]
def pcX5_needPlace_0 : List pmE := [(0, .aload_n 0, 0, 0, 0), (1, .iload_n 1, 1, 0, 0), (2, .invokevirtual 54, 67, 2, 0), (5, .lload_n 2, 2, 0, 0), (6, .lconst 0, 0, 0, 0), (7, .lcmp, 0, 0, 0), (8, .ifCond .lt 37, 45, 0, 0), (11, .lload_n 2, 2, 0, 0), (12, .aload_n 0, 0, 0, 0), (13, .getfield 30, 5, 0, 0), (16, .getfield 123, 2, 1, 0), (19, .i2l, 0, 0, 0), (20, .lcmp, 0, 0, 0), (21, .ifCond .ge 24, 45, 0, 0), (24, .lload 4, 4, 0, 0), (26, .lconst 0, 0, 0, 0), (27, .lcmp, 0, 0, 0), (28, .ifCond .lt 17, 45, 0, 0), (31, .lload 4, 4, 0, 0)]
def pcX5_needPlace_1 : List pmE := [(33, .aload_n 0, 0, 0, 0), (34, .getfield 30, 5, 0, 0), (37, .getfield 126, 2, 2, 0), (40, .i2l, 0, 0, 0), (41, .lcmp, 0, 0, 0), (42, .ifCond .lt 13, 55, 0, 0), (45, .athrow, 0, 0, 0), (55, .return_, 0, 0, 0)]
def pcX5_needPlace : List (List pmE) := [pcX5_needPlace_0, pcX5_needPlace_1]
def pcX5_needNet_0 : List pmE := [(0, .iload_n 1, 1, 0, 0), (1, .ifCond .lt 14, 15, 0, 0), (4, .iload_n 1, 1, 0, 0), (5, .aload_n 0, 0, 0, 0), (6, .getfield 37, 5, 1, 0), (9, .getfield 73, 0, 0, 0), (12, .if_icmp .lt 13, 25, 0, 0), (15, .athrow, 0, 0, 0), (25, .return_, 0, 0, 0)]
def pcX5_needNet : List (List pmE) := [pcX5_needNet_0]
def pcX5_needPin_0 : List pmE := [(0, .iload_n 1, 1, 0, 0), (1, .ifCond .lt 14, 15, 0, 0), (4, .iload_n 1, 1, 0, 0), (5, .aload_n 0, 0, 0, 0), (6, .getfield 37, 5, 1, 0), (9, .getfield 89, 0, 2, 0), (12, .if_icmp .lt 13, 25, 0, 0), (15, .athrow, 0, 0, 0), (25, .return_, 0, 0, 0)]
def pcX5_needPin : List (List pmE) := [pcX5_needPin_0]
def pcX5_needWhat_0 : List pmE := [(0, .iload_n 1, 1, 0, 0), (1, .ifCond .lt 8, 9, 0, 0), (4, .iload_n 1, 1, 0, 0), (5, .iload_n 2, 2, 0, 0), (6, .if_icmp .lt 13, 19, 0, 0), (9, .athrow, 0, 0, 0), (19, .return_, 0, 0, 0)]
def pcX5_needWhat : List (List pmE) := [pcX5_needWhat_0]
def pcX5_needNotBelowZero_0 : List pmE := [(0, .iload_n 1, 1, 0, 0), (1, .ifCond .ge 13, 14, 0, 0), (4, .athrow, 0, 0, 0), (14, .return_, 0, 0, 0)]
def pcX5_needNotBelowZero : List (List pmE) := [pcX5_needNotBelowZero_0]
def pcX5_needRun_0 : List pmE := [(0, .aload_n 0, 0, 0, 0), (1, .getfield 50, 5, 3, 0), (4, .ifCond .ne 13, 17, 0, 0), (7, .athrow, 2, 0, 0), (17, .return_, 0, 0, 0)]
def pcX5_needRun : List (List pmE) := [pcX5_needRun_0]
def pcX5_isIn_0 : List pmE := [(0, .iload_n 0, 0, 0, 0), (1, .iload_n 1, 1, 0, 0), (2, .ishr, 0, 0, 0), (3, .iconst 1, 0, 0, 1), (4, .iand, 0, 0, 0), (5, .ifCond .eq 7, 12, 0, 0), (8, .iconst 1, 0, 0, 1), (9, .goto 4, 13, 0, 0), (12, .iconst 0, 0, 0, 0), (13, .ireturn, 0, 1, 0)]
def pcX5_isIn : List (List pmE) := [pcX5_isIn_0]
def pcX6_init_0 : List pmE := [(0, .aload_n 0, 0, 0, 0), (1, .nop, 0, 0, 0), (4, .aload_n 0, 0, 0, 0), (5, .iconst 3, 0, 0, 3), (6, .newarray .int, 0, 0, 0), (8, .putfield 7, 6, 4, 0), (11, .aload_n 0, 0, 0, 0), (12, .iconst 3, 0, 0, 3), (13, .newarray .int, 0, 0, 0), (15, .dup, 0, 0, 0), (16, .iconst 0, 0, 0, 0), (17, .iconst 3, 0, 0, 3), (18, .iastore, 0, 0, 0), (19, .dup, 0, 0, 0), (20, .iconst 1, 0, 0, 1), (21, .iconst 3, 0, 0, 3), (22, .iastore, 0, 0, 0), (23, .dup, 0, 0, 0), (24, .iconst 2, 0, 0, 2), (25, .iconst 3, 0, 0, 3), (26, .iastore, 0, 0, 0), (27, .putfield 13, 6, 5, 0), (30, .aload_n 0, 0, 0, 0), (31, .iconst 3, 0, 0, 3)]
def pcX6_init_1 : List pmE := [(32, .newarray .int, 0, 0, 0), (34, .dup, 0, 0, 0), (35, .iconst 0, 0, 0, 0), (36, .iconst 5, 0, 0, 5), (37, .iastore, 0, 0, 0), (38, .dup, 0, 0, 0), (39, .iconst 1, 0, 0, 1), (40, .iconst 5, 0, 0, 5), (41, .iastore, 0, 0, 0), (42, .dup, 0, 0, 0), (43, .iconst 2, 0, 0, 2), (44, .iconst 5, 0, 0, 5), (45, .iastore, 0, 0, 0), (46, .putfield 16, 6, 6, 0), (49, .aload_n 0, 0, 0, 0), (50, .sipush 1728, 0, 0, 1728), (53, .newarray .boolean, 0, 0, 0), (55, .putfield 19, 6, 7, 0), (58, .aload_n 0, 0, 0, 0), (59, .bipush 16, 0, 0, 16), (61, .newarray .boolean, 0, 0, 0), (63, .putfield 23, 6, 9, 0)]
def pcX6_init_2 : List pmE := [(66, .aload_n 0, 0, 0, 0), (67, .bipush 40, 0, 0, 40), (69, .newarray .int, 0, 0, 0), (71, .putfield 26, 6, 11, 0), (74, .aload_n 0, 0, 0, 0), (75, .sipush 160, 0, 0, 160), (78, .newarray .int, 0, 0, 0), (80, .putfield 29, 6, 12, 0), (83, .aload_n 0, 0, 0, 0), (84, .bipush 40, 0, 0, 40), (86, .newarray .int, 0, 0, 0), (88, .putfield 32, 6, 13, 0), (91, .aload_n 0, 0, 0, 0), (92, .bipush 40, 0, 0, 40), (94, .newarray .int, 0, 0, 0)]
def pcX6_init_3 : List pmE := [(96, .putfield 35, 6, 15, 0), (99, .aload_n 0, 0, 0, 0), (100, .bipush 16, 0, 0, 16), (102, .newarray .boolean, 0, 0, 0), (104, .putfield 38, 6, 16, 0), (107, .aload_n 0, 0, 0, 0), (108, .bipush 16, 0, 0, 16), (110, .newarray .boolean, 0, 0, 0), (112, .putfield 41, 6, 17, 0), (115, .aload_n 0, 0, 0, 0), (116, .bipush 16, 0, 0, 16), (118, .newarray .int, 0, 0, 0), (120, .putfield 44, 6, 18, 0), (123, .aload_n 0, 0, 0, 0), (124, .sipush 1728, 0, 0, 1728), (127, .newarray .int, 0, 0, 0)]
def pcX6_init_4 : List pmE := [(129, .putfield 47, 6, 19, 0), (132, .aload_n 0, 0, 0, 0), (133, .sipush 27648, 0, 0, 27648), (136, .newarray .boolean, 0, 0, 0), (138, .putfield 50, 6, 20, 0), (141, .aload_n 0, 0, 0, 0), (142, .sipush 27648, 0, 0, 27648), (145, .newarray .boolean, 0, 0, 0), (147, .putfield 53, 6, 21, 0), (150, .aload_n 0, 0, 0, 0), (151, .sipush 1728, 0, 0, 1728), (154, .newarray .boolean, 0, 0, 0), (156, .putfield 56, 6, 25, 0), (159, .aload_n 0, 0, 0, 0)]
def pcX6_init_5 : List pmE := [(160, .sipush 1728, 0, 0, 1728), (163, .newarray .boolean, 0, 0, 0), (165, .putfield 59, 6, 26, 0), (168, .aload_n 0, 0, 0, 0), (169, .sipush 1728, 0, 0, 1728), (172, .newarray .boolean, 0, 0, 0), (174, .putfield 62, 6, 27, 0), (177, .aload_n 0, 0, 0, 0), (178, .sipush 1728, 0, 0, 1728), (181, .newarray .boolean, 0, 0, 0), (183, .putfield 65, 6, 28, 0), (186, .aload_n 0, 0, 0, 0), (187, .sipush 1728, 0, 0, 1728), (190, .newarray .int, 0, 0, 0)]
def pcX6_init_6 : List pmE := [(192, .putfield 68, 6, 29, 0), (195, .aload_n 0, 0, 0, 0), (196, .bipush 16, 0, 0, 16), (198, .newarray .boolean, 0, 0, 0), (200, .putfield 71, 6, 30, 0), (203, .aload_n 0, 0, 0, 0), (204, .sipush 27648, 0, 0, 27648), (207, .newarray .boolean, 0, 0, 0), (209, .putfield 74, 6, 31, 0), (212, .aload_n 0, 0, 0, 0), (213, .iload_n 1, 1, 0, 0), (214, .i2l, 0, 0, 0), (215, .iconst 3, 0, 0, 3), (216, .invokestatic 77, 77, 2, 0), (219, .putfield 81, 6, 1, 0), (222, .aload_n 0, 0, 0, 0), (223, .lload_n 2, 2, 0, 0)]
def pcX6_init_7 : List pmE := [(224, .bipush 24, 0, 0, 24), (226, .invokestatic 77, 77, 2, 0), (229, .putfield 85, 6, 2, 0), (232, .aload_n 0, 0, 0, 0), (233, .lload 4, 4, 0, 0), (235, .bipush 24, 0, 0, 24), (237, .invokestatic 77, 77, 2, 0), (240, .putfield 88, 6, 3, 0), (243, .return_, 0, 0, 0)]
def pcX6_init : List (List pmE) := [pcX6_init_0, pcX6_init_1, pcX6_init_2, pcX6_init_3, pcX6_init_4, pcX6_init_5, pcX6_init_6, pcX6_init_7]
def pcX6_thrown_0 : List pmE := [(0, .aload_n 0, 0, 0, 0), (1, .getfield 91, 6, 0, 0), (4, .ireturn, 0, 0, 0)]
def pcX6_thrown : List (List pmE) := [pcX6_thrown_0]
def pcX6_clip_0 : List pmE := [(0, .lload_n 0, 0, 0, 0), (1, .lconst 1, 1, 0, 0), (2, .lcmp, 0, 0, 0), (3, .ifCond .ge 7, 10, 0, 0), (6, .iconst 1, 0, 0, 1), (7, .goto 16, 23, 0, 0), (10, .lload_n 0, 0, 0, 0), (11, .iload_n 2, 2, 0, 0), (12, .i2l, 0, 0, 0), (13, .lcmp, 0, 0, 0), (14, .ifCond .le 7, 21, 0, 0), (17, .iload_n 2, 2, 0, 0), (18, .goto 5, 23, 0, 0), (21, .lload_n 0, 0, 0, 0), (22, .l2i, 0, 0, 0), (23, .ireturn, 0, 0, 0)]
def pcX6_clip : List (List pmE) := [pcX6_clip_0]
def pcX6_isIn_0 : List pmE := [(0, .lload_n 0, 0, 0, 0), (1, .lload_n 2, 2, 0, 0), (2, .lcmp, 0, 0, 0), (3, .ifCond .lt 14, 17, 0, 0), (6, .lload_n 0, 0, 0, 0), (7, .lload 4, 4, 0, 0), (9, .lcmp, 0, 0, 0), (10, .ifCond .gt 7, 17, 0, 0), (13, .iconst 1, 0, 0, 1), (14, .goto 4, 18, 0, 0), (17, .iconst 0, 0, 0, 0), (18, .ireturn, 0, 1, 0)]
def pcX6_isIn : List (List pmE) := [pcX6_isIn_0]
def pcX6_refuses_0 : List pmE := [(0, .aload_n 0, 0, 0, 0), (1, .iload_n 1, 1, 0, 0), (2, .putfield 91, 6, 0, 0), (5, .iload_n 1, 1, 0, 0), (6, .ifCond .le 7, 13, 0, 0), (9, .iconst 1, 0, 0, 1), (10, .goto 4, 14, 0, 0), (13, .iconst 0, 0, 0, 0), (14, .ireturn, 0, 1, 0)]
def pcX6_refuses : List (List pmE) := [pcX6_refuses_0]
def pcX6_all_0 : List pmE := [(0, .aload_n 0, 0, 0, 0), (1, .getfield 81, 6, 1, 0), (4, .aload_n 0, 0, 0, 0), (5, .getfield 85, 6, 2, 0), (8, .imul, 0, 0, 0), (9, .aload_n 0, 0, 0, 0), (10, .getfield 88, 6, 3, 0), (13, .imul, 0, 0, 0), (14, .ireturn, 0, 0, 0)]
def pcX6_all : List (List pmE) := [pcX6_all_0]
def pcX6_placeOf_0 : List pmE := [(0, .iload_n 1, 1, 0, 0), (1, .i2l, 0, 0, 0), (2, .lconst 0, 0, 0, 0), (3, .aload_n 0, 0, 0, 0), (4, .getfield 81, 6, 1, 0), (7, .iconst 1, 0, 0, 1), (8, .isub, 0, 0, 0), (9, .i2l, 0, 0, 0), (10, .invokestatic 94, 78, 3, 0), (13, .ifCond .eq 38, 51, 0, 0), (16, .lload_n 2, 2, 0, 0), (17, .lconst 0, 0, 0, 0), (18, .aload_n 0, 0, 0, 0), (19, .getfield 85, 6, 2, 0), (22, .iconst 1, 0, 0, 1), (23, .isub, 0, 0, 0), (24, .i2l, 0, 0, 0), (25, .invokestatic 94, 78, 3, 0), (28, .ifCond .eq 23, 51, 0, 0), (31, .lload 4, 4, 0, 0)]
def pcX6_placeOf_1 : List pmE := [(33, .lconst 0, 0, 0, 0), (34, .aload_n 0, 0, 0, 0), (35, .getfield 88, 6, 3, 0), (38, .iconst 1, 0, 0, 1), (39, .isub, 0, 0, 0), (40, .i2l, 0, 0, 0), (41, .invokestatic 94, 78, 3, 0), (44, .ifCond .eq 7, 51, 0, 0), (47, .iconst 1, 0, 0, 1), (48, .goto 4, 52, 0, 0), (51, .iconst 0, 0, 0, 0), (52, .istore 6, 6, 0, 0), (54, .iload 6, 6, 0, 0), (56, .ifCond .eq 24, 80, 0, 0), (59, .iload_n 1, 1, 0, 0), (60, .aload_n 0, 0, 0, 0), (61, .getfield 88, 6, 3, 0)]
def pcX6_placeOf_2 : List pmE := [(64, .imul, 0, 0, 0), (65, .lload 4, 4, 0, 0), (67, .l2i, 0, 0, 0), (68, .iadd, 0, 0, 0), (69, .aload_n 0, 0, 0, 0), (70, .getfield 85, 6, 2, 0), (73, .imul, 0, 0, 0), (74, .lload_n 2, 2, 0, 0), (75, .l2i, 0, 0, 0), (76, .iadd, 0, 0, 0), (77, .goto 4, 81, 0, 0), (80, .iconst (-1), 0, 0, -1), (81, .ireturn, 0, 0, 0)]
def pcX6_placeOf : List (List pmE) := [pcX6_placeOf_0, pcX6_placeOf_1, pcX6_placeOf_2]
def pcX6_layerOf_0 : List pmE := [(0, .iload_n 1, 1, 0, 0), (1, .aload_n 0, 0, 0, 0), (2, .getfield 85, 6, 2, 0), (5, .aload_n 0, 0, 0, 0), (6, .getfield 88, 6, 3, 0), (9, .imul, 0, 0, 0), (10, .idiv, 0, 0, 0), (11, .ireturn, 0, 0, 0)]
def pcX6_layerOf : List (List pmE) := [pcX6_layerOf_0]
def pcX6_xOf_0 : List pmE := [(0, .iload_n 1, 1, 0, 0), (1, .aload_n 0, 0, 0, 0), (2, .getfield 85, 6, 2, 0), (5, .irem, 0, 0, 0), (6, .ireturn, 0, 0, 0)]
def pcX6_xOf : List (List pmE) := [pcX6_xOf_0]
def pcX6_yOf_0 : List pmE := [(0, .iload_n 1, 1, 0, 0), (1, .aload_n 0, 0, 0, 0), (2, .getfield 85, 6, 2, 0), (5, .idiv, 0, 0, 0), (6, .aload_n 0, 0, 0, 0), (7, .getfield 88, 6, 3, 0), (10, .irem, 0, 0, 0), (11, .ireturn, 0, 0, 0)]
def pcX6_yOf : List (List pmE) := [pcX6_yOf_0]
def pcX6_rule_0 : List pmE := [(0, .iload_n 1, 1, 0, 0), (1, .ifCond .ne 14, 15, 0, 0), (4, .lload_n 3, 3, 0, 0), (5, .lconst 0, 0, 0, 0), (6, .ldc2_w 98, 2, 0, 0), (9, .invokestatic 94, 78, 3, 0), (12, .goto 40, 52, 0, 0), (15, .iload_n 1, 1, 0, 0), (16, .iconst 1, 0, 0, 1), (17, .if_icmp .ne 14, 31, 0, 0), (20, .lload_n 3, 3, 0, 0), (21, .lconst 0, 0, 0, 0), (22, .ldc2_w 100, 50, 0, 0), (25, .invokestatic 94, 78, 3, 0), (28, .goto 24, 52, 0, 0), (31, .iload_n 1, 1, 0, 0)]
def pcX6_rule_1 : List pmE := [(32, .iconst 2, 0, 0, 2), (33, .if_icmp .ne 18, 51, 0, 0), (36, .lload_n 3, 3, 0, 0), (37, .lconst 1, 1, 0, 0), (38, .ldc2_w 100, 50, 0, 0), (41, .invokestatic 94, 78, 3, 0), (44, .ifCond .eq 7, 51, 0, 0), (47, .iconst 1, 0, 0, 1), (48, .goto 4, 52, 0, 0), (51, .iconst 0, 0, 0, 0), (52, .istore 5, 5, 0, 0), (54, .aload_n 0, 0, 0, 0), (55, .iload_n 2, 2, 0, 0), (56, .i2l, 0, 0, 0), (57, .lconst 0, 0, 0, 0), (58, .aload_n 0, 0, 0, 0), (59, .getfield 81, 6, 1, 0), (62, .iconst 1, 0, 0, 1), (63, .isub, 0, 0, 0)]
def pcX6_rule_2 : List pmE := [(64, .i2l, 0, 0, 0), (65, .invokestatic 94, 78, 3, 0), (68, .ifCond .ne 7, 75, 0, 0), (71, .iconst 1, 0, 0, 1), (72, .goto 13, 85, 0, 0), (75, .iload 5, 5, 0, 0), (77, .ifCond .ne 7, 84, 0, 0), (80, .iconst 2, 0, 0, 2), (81, .goto 4, 85, 0, 0), (84, .iconst 0, 0, 0, 0), (85, .invokevirtual 102, 79, 2, 0), (88, .ifCond .eq 5, 93, 0, 0), (91, .iconst 0, 0, 0, 0), (92, .ireturn, 0, 1, 0), (93, .iload_n 1, 1, 0, 0), (94, .ifCond .ne 12, 106, 0, 0)]
def pcX6_rule_3 : List pmE := [(97, .aload_n 0, 0, 0, 0), (98, .getfield 7, 6, 4, 0), (101, .iload_n 2, 2, 0, 0), (102, .iaload, 0, 0, 0), (103, .goto 23, 126, 0, 0), (106, .iload_n 1, 1, 0, 0), (107, .iconst 1, 0, 0, 1), (108, .if_icmp .ne 12, 120, 0, 0), (111, .aload_n 0, 0, 0, 0), (112, .getfield 13, 6, 5, 0), (115, .iload_n 2, 2, 0, 0), (116, .iaload, 0, 0, 0), (117, .goto 9, 126, 0, 0), (120, .aload_n 0, 0, 0, 0), (121, .getfield 16, 6, 6, 0), (124, .iload_n 2, 2, 0, 0), (125, .iaload, 0, 0, 0), (126, .istore 6, 6, 0, 0)]
def pcX6_rule_4 : List pmE := [(128, .iload_n 1, 1, 0, 0), (129, .ifCond .ne 14, 143, 0, 0), (132, .aload_n 0, 0, 0, 0), (133, .getfield 7, 6, 4, 0), (136, .iload_n 2, 2, 0, 0), (137, .lload_n 3, 3, 0, 0), (138, .l2i, 0, 0, 0), (139, .iastore, 0, 0, 0), (140, .goto 27, 167, 0, 0), (143, .iload_n 1, 1, 0, 0), (144, .iconst 1, 0, 0, 1), (145, .if_icmp .ne 14, 159, 0, 0), (148, .aload_n 0, 0, 0, 0), (149, .getfield 13, 6, 5, 0), (152, .iload_n 2, 2, 0, 0), (153, .lload_n 3, 3, 0, 0), (154, .l2i, 0, 0, 0), (155, .iastore, 0, 0, 0), (156, .goto 11, 167, 0, 0), (159, .aload_n 0, 0, 0, 0)]
def pcX6_rule_5 : List pmE := [(160, .getfield 16, 6, 6, 0), (163, .iload_n 2, 2, 0, 0), (164, .lload_n 3, 3, 0, 0), (165, .l2i, 0, 0, 0), (166, .iastore, 0, 0, 0), (167, .aload_n 0, 0, 0, 0), (168, .aload_n 0, 0, 0, 0), (169, .getfield 106, 6, 14, 0), (172, .ifCond .eq 15, 187, 0, 0), (175, .iload 6, 6, 0, 0), (177, .i2l, 0, 0, 0), (178, .lload_n 3, 3, 0, 0), (179, .lcmp, 0, 0, 0), (180, .ifCond .ne 7, 187, 0, 0), (183, .iconst 1, 0, 0, 1), (184, .goto 4, 188, 0, 0), (187, .iconst 0, 0, 0, 0), (188, .putfield 106, 6, 14, 0), (191, .iload 6, 6, 0, 0)]
def pcX6_rule_6 : List pmE := [(193, .i2l, 0, 0, 0), (194, .lload_n 3, 3, 0, 0), (195, .lcmp, 0, 0, 0), (196, .ifCond .eq 7, 203, 0, 0), (199, .iconst 1, 0, 0, 1), (200, .goto 4, 204, 0, 0), (203, .iconst 0, 0, 0, 0), (204, .ireturn, 0, 1, 0)]
def pcX6_rule : List (List pmE) := [pcX6_rule_0, pcX6_rule_1, pcX6_rule_2, pcX6_rule_3, pcX6_rule_4, pcX6_rule_5, pcX6_rule_6]
def pcX6_net_0 : List pmE := [(0, .aload_n 0, 0, 0, 0), (1, .aload_n 0, 0, 0, 0), (2, .getfield 110, 6, 8, 0), (5, .bipush 16, 0, 0, 16), (7, .if_icmp .ne 7, 14, 0, 0), (10, .iconst 1, 0, 0, 1), (11, .goto 4, 15, 0, 0), (14, .iconst 0, 0, 0, 0), (15, .invokevirtual 102, 79, 2, 0), (18, .ifCond .eq 5, 23, 0, 0), (21, .iconst 0, 0, 0, 0), (22, .ireturn, 0, 0, 0), (23, .aload_n 0, 0, 0, 0), (24, .iconst 0, 0, 0, 0), (25, .putfield 106, 6, 14, 0), (28, .aload_n 0, 0, 0, 0), (29, .dup, 0, 0, 0), (30, .getfield 110, 6, 8, 0)]
def pcX6_net_1 : List pmE := [(33, .iconst 1, 0, 0, 1), (34, .iadd, 0, 0, 0), (35, .putfield 110, 6, 8, 0), (38, .aload_n 0, 0, 0, 0), (39, .getfield 110, 6, 8, 0), (42, .iconst 1, 0, 0, 1), (43, .isub, 0, 0, 0), (44, .ireturn, 0, 0, 0)]
def pcX6_net : List (List pmE) := [pcX6_net_0, pcX6_net_1]
def pcX6_isNet_0 : List pmE := [(0, .iload_n 1, 1, 0, 0), (1, .ifCond .lt 15, 16, 0, 0), (4, .iload_n 1, 1, 0, 0), (5, .aload_n 0, 0, 0, 0), (6, .getfield 110, 6, 8, 0), (9, .if_icmp .ge 7, 16, 0, 0), (12, .iconst 1, 0, 0, 1), (13, .goto 4, 17, 0, 0), (16, .iconst 0, 0, 0, 0), (17, .ireturn, 0, 1, 0)]
def pcX6_isNet : List (List pmE) := [pcX6_isNet_0]
def pcX6_isPin_0 : List pmE := [(0, .iload_n 1, 1, 0, 0), (1, .ifCond .lt 15, 16, 0, 0), (4, .iload_n 1, 1, 0, 0), (5, .aload_n 0, 0, 0, 0), (6, .getfield 113, 6, 10, 0), (9, .if_icmp .ge 7, 16, 0, 0), (12, .iconst 1, 0, 0, 1), (13, .goto 4, 17, 0, 0), (16, .iconst 0, 0, 0, 0), (17, .ireturn, 0, 1, 0)]
def pcX6_isPin : List (List pmE) := [pcX6_isPin_0]
def pcX6_pin_0 : List pmE := [(0, .aload_n 0, 0, 0, 0), (1, .aload_n 0, 0, 0, 0), (2, .iload_n 1, 1, 0, 0), (3, .invokevirtual 116, 87, 2, 0), (6, .ifCond .ne 7, 13, 0, 0), (9, .iconst 1, 0, 0, 1), (10, .goto 17, 27, 0, 0), (13, .aload_n 0, 0, 0, 0), (14, .getfield 113, 6, 10, 0), (17, .bipush 40, 0, 0, 40), (19, .if_icmp .ne 7, 26, 0, 0), (22, .iconst 2, 0, 0, 2), (23, .goto 4, 27, 0, 0), (26, .iconst 0, 0, 0, 0), (27, .invokevirtual 102, 79, 2, 0), (30, .ifCond .eq 5, 35, 0, 0)]
def pcX6_pin_1 : List pmE := [(33, .iconst 0, 0, 0, 0), (34, .ireturn, 0, 0, 0), (35, .aload_n 0, 0, 0, 0), (36, .iconst 0, 0, 0, 0), (37, .putfield 106, 6, 14, 0), (40, .aload_n 0, 0, 0, 0), (41, .getfield 26, 6, 11, 0), (44, .aload_n 0, 0, 0, 0), (45, .getfield 113, 6, 10, 0), (48, .iload_n 1, 1, 0, 0), (49, .iastore, 0, 0, 0), (50, .aload_n 0, 0, 0, 0), (51, .dup, 0, 0, 0), (52, .getfield 113, 6, 10, 0), (55, .iconst 1, 0, 0, 1), (56, .iadd, 0, 0, 0), (57, .putfield 113, 6, 10, 0), (60, .aload_n 0, 0, 0, 0), (61, .getfield 113, 6, 10, 0)]
def pcX6_pin_2 : List pmE := [(64, .iconst 1, 0, 0, 1), (65, .isub, 0, 0, 0), (66, .ireturn, 0, 0, 0)]
def pcX6_pin : List (List pmE) := [pcX6_pin_0, pcX6_pin_1, pcX6_pin_2]
def pcX6_access_0 : List pmE := [(0, .aload_n 0, 0, 0, 0), (1, .iload_n 2, 2, 0, 0), (2, .lload_n 3, 3, 0, 0), (3, .lload 5, 5, 0, 0), (5, .invokevirtual 119, 81, 4, 0), (8, .istore 7, 7, 0, 0), (10, .aload_n 0, 0, 0, 0), (11, .aload_n 0, 0, 0, 0), (12, .iload_n 1, 1, 0, 0), (13, .invokevirtual 123, 88, 2, 0), (16, .ifCond .eq 9, 25, 0, 0), (19, .iload 7, 7, 0, 0), (21, .iconst (-1), 0, 0, -1), (22, .if_icmp .ne 7, 29, 0, 0), (25, .iconst 1, 0, 0, 1), (26, .goto 18, 44, 0, 0), (29, .aload_n 0, 0, 0, 0), (30, .getfield 32, 6, 13, 0)]
def pcX6_access_1 : List pmE := [(33, .iload_n 1, 1, 0, 0), (34, .iaload, 0, 0, 0), (35, .iconst 4, 0, 0, 4), (36, .if_icmp .ne 7, 43, 0, 0), (39, .iconst 2, 0, 0, 2), (40, .goto 4, 44, 0, 0), (43, .iconst 0, 0, 0, 0), (44, .invokevirtual 102, 79, 2, 0), (47, .ifCond .eq 5, 52, 0, 0), (50, .iconst 0, 0, 0, 0), (51, .ireturn, 0, 1, 0), (52, .iconst 0, 0, 0, 0), (53, .istore 8, 8, 0, 0), (55, .iload 8, 8, 0, 0), (57, .aload_n 0, 0, 0, 0), (58, .getfield 32, 6, 13, 0), (61, .iload_n 1, 1, 0, 0), (62, .iaload, 0, 0, 0), (63, .if_icmp .ge 27, 90, 0, 0)]
def pcX6_access_2 : List pmE := [(66, .aload_n 0, 0, 0, 0), (67, .getfield 29, 6, 12, 0), (70, .iconst 4, 0, 0, 4), (71, .iload_n 1, 1, 0, 0), (72, .imul, 0, 0, 0), (73, .iload 8, 8, 0, 0), (75, .iadd, 0, 0, 0), (76, .iaload, 0, 0, 0), (77, .iload 7, 7, 0, 0), (79, .if_icmp .ne 5, 84, 0, 0), (82, .iconst 0, 0, 0, 0), (83, .ireturn, 0, 1, 0), (84, .iinc 8 1, 8, 0, 1), (87, .goto (-32), 55, 0, 0), (90, .aload_n 0, 0, 0, 0), (91, .iconst 0, 0, 0, 0), (92, .putfield 106, 6, 14, 0), (95, .aload_n 0, 0, 0, 0)]
def pcX6_access_3 : List pmE := [(96, .getfield 29, 6, 12, 0), (99, .iconst 4, 0, 0, 4), (100, .iload_n 1, 1, 0, 0), (101, .imul, 0, 0, 0), (102, .aload_n 0, 0, 0, 0), (103, .getfield 32, 6, 13, 0), (106, .iload_n 1, 1, 0, 0), (107, .iaload, 0, 0, 0), (108, .iadd, 0, 0, 0), (109, .iload 7, 7, 0, 0), (111, .iastore, 0, 0, 0), (112, .aload_n 0, 0, 0, 0), (113, .getfield 32, 6, 13, 0), (116, .iload_n 1, 1, 0, 0), (117, .dup2, 0, 0, 0), (118, .iaload, 0, 0, 0), (119, .iconst 1, 0, 0, 1), (120, .iadd, 0, 0, 0), (121, .iastore, 0, 0, 0), (122, .iconst 1, 0, 0, 1), (123, .ireturn, 0, 1, 0)]
def pcX6_access : List (List pmE) := [pcX6_access_0, pcX6_access_1, pcX6_access_2, pcX6_access_3]
def pcX6_bar_0 : List pmE := [(0, .lload_n 2, 2, 0, 0), (1, .lconst 0, 0, 0, 0), (2, .aload_n 0, 0, 0, 0), (3, .getfield 85, 6, 2, 0), (6, .iconst 1, 0, 0, 1), (7, .isub, 0, 0, 0), (8, .i2l, 0, 0, 0), (9, .invokestatic 94, 78, 3, 0), (12, .ifCond .eq 56, 68, 0, 0), (15, .lload 6, 6, 0, 0), (17, .lload_n 2, 2, 0, 0), (18, .aload_n 0, 0, 0, 0), (19, .getfield 85, 6, 2, 0), (22, .iconst 1, 0, 0, 1), (23, .isub, 0, 0, 0), (24, .i2l, 0, 0, 0), (25, .invokestatic 94, 78, 3, 0), (28, .ifCond .eq 40, 68, 0, 0), (31, .lload 4, 4, 0, 0)]
def pcX6_bar_1 : List pmE := [(33, .lconst 0, 0, 0, 0), (34, .aload_n 0, 0, 0, 0), (35, .getfield 88, 6, 3, 0), (38, .iconst 1, 0, 0, 1), (39, .isub, 0, 0, 0), (40, .i2l, 0, 0, 0), (41, .invokestatic 94, 78, 3, 0), (44, .ifCond .eq 24, 68, 0, 0), (47, .lload 8, 8, 0, 0), (49, .lload 4, 4, 0, 0), (51, .aload_n 0, 0, 0, 0), (52, .getfield 88, 6, 3, 0), (55, .iconst 1, 0, 0, 1), (56, .isub, 0, 0, 0), (57, .i2l, 0, 0, 0), (58, .invokestatic 94, 78, 3, 0), (61, .ifCond .eq 7, 68, 0, 0)]
def pcX6_bar_2 : List pmE := [(64, .iconst 1, 0, 0, 1), (65, .goto 4, 69, 0, 0), (68, .iconst 0, 0, 0, 0), (69, .istore 10, 10, 0, 0), (71, .aload_n 0, 0, 0, 0), (72, .iload_n 1, 1, 0, 0), (73, .i2l, 0, 0, 0), (74, .lconst 0, 0, 0, 0), (75, .aload_n 0, 0, 0, 0), (76, .getfield 81, 6, 1, 0), (79, .iconst 1, 0, 0, 1), (80, .isub, 0, 0, 0), (81, .i2l, 0, 0, 0), (82, .invokestatic 94, 78, 3, 0), (85, .ifCond .ne 7, 92, 0, 0), (88, .iconst 1, 0, 0, 1), (89, .goto 13, 102, 0, 0), (92, .iload 10, 10, 0, 0), (94, .ifCond .ne 7, 101, 0, 0)]
def pcX6_bar_3 : List pmE := [(97, .iconst 2, 0, 0, 2), (98, .goto 4, 102, 0, 0), (101, .iconst 0, 0, 0, 0), (102, .invokevirtual 102, 79, 2, 0), (105, .ifCond .eq 5, 110, 0, 0), (108, .iconst 0, 0, 0, 0), (109, .ireturn, 0, 1, 0), (110, .iconst 0, 0, 0, 0), (111, .istore 11, 11, 0, 0), (113, .iconst 0, 0, 0, 0), (114, .istore 12, 12, 0, 0), (116, .iload 12, 12, 0, 0), (118, .aload_n 0, 0, 0, 0), (119, .invokevirtual 126, 80, 1, 0), (122, .if_icmp .ge 113, 235, 0, 0), (125, .aload_n 0, 0, 0, 0), (126, .iload 12, 12, 0, 0)]
def pcX6_bar_4 : List pmE := [(128, .invokevirtual 130, 82, 2, 0), (131, .iload_n 1, 1, 0, 0), (132, .if_icmp .ne 40, 172, 0, 0), (135, .aload_n 0, 0, 0, 0), (136, .iload 12, 12, 0, 0), (138, .invokevirtual 134, 83, 2, 0), (141, .i2l, 0, 0, 0), (142, .lload_n 2, 2, 0, 0), (143, .lload 6, 6, 0, 0), (145, .invokestatic 94, 78, 3, 0), (148, .ifCond .eq 24, 172, 0, 0), (151, .aload_n 0, 0, 0, 0), (152, .iload 12, 12, 0, 0), (154, .invokevirtual 137, 84, 2, 0), (157, .i2l, 0, 0, 0), (158, .lload 4, 4, 0, 0)]
def pcX6_bar_5 : List pmE := [(160, .lload 8, 8, 0, 0), (162, .invokestatic 94, 78, 3, 0), (165, .ifCond .eq 7, 172, 0, 0), (168, .iconst 1, 0, 0, 1), (169, .goto 4, 173, 0, 0), (172, .iconst 0, 0, 0, 0), (173, .istore 13, 13, 0, 0), (175, .iload 11, 11, 0, 0), (177, .ifCond .ne 18, 195, 0, 0), (180, .iload 13, 13, 0, 0), (182, .ifCond .eq 17, 199, 0, 0), (185, .aload_n 0, 0, 0, 0), (186, .getfield 19, 6, 7, 0), (189, .iload 12, 12, 0, 0), (191, .baload, 0, 0, 0)]
def pcX6_bar_6 : List pmE := [(192, .ifCond .ne 7, 199, 0, 0), (195, .iconst 1, 0, 0, 1), (196, .goto 4, 200, 0, 0), (199, .iconst 0, 0, 0, 0), (200, .istore 11, 11, 0, 0), (202, .aload_n 0, 0, 0, 0), (203, .getfield 19, 6, 7, 0), (206, .iload 12, 12, 0, 0), (208, .aload_n 0, 0, 0, 0), (209, .getfield 19, 6, 7, 0), (212, .iload 12, 12, 0, 0), (214, .baload, 0, 0, 0), (215, .ifCond .ne 8, 223, 0, 0), (218, .iload 13, 13, 0, 0), (220, .ifCond .eq 7, 227, 0, 0), (223, .iconst 1, 0, 0, 1)]
def pcX6_bar_7 : List pmE := [(224, .goto 4, 228, 0, 0), (227, .iconst 0, 0, 0, 0), (228, .bastore, 0, 0, 0), (229, .iinc 12 1, 12, 0, 1), (232, .goto (-116), 116, 0, 0), (235, .aload_n 0, 0, 0, 0), (236, .aload_n 0, 0, 0, 0), (237, .getfield 106, 6, 14, 0), (240, .ifCond .eq 12, 252, 0, 0), (243, .iload 11, 11, 0, 0), (245, .ifCond .ne 7, 252, 0, 0), (248, .iconst 1, 0, 0, 1), (249, .goto 4, 253, 0, 0), (252, .iconst 0, 0, 0, 0), (253, .putfield 106, 6, 14, 0)]
def pcX6_bar_8 : List pmE := [(256, .iload 11, 11, 0, 0), (258, .ireturn, 0, 1, 0)]
def pcX6_bar : List (List pmE) := [pcX6_bar_0, pcX6_bar_1, pcX6_bar_2, pcX6_bar_3, pcX6_bar_4, pcX6_bar_5, pcX6_bar_6, pcX6_bar_7, pcX6_bar_8]
def pcX6_shield_0 : List pmE := [(0, .aload_n 0, 0, 0, 0), (1, .aload_n 0, 0, 0, 0), (2, .iload_n 1, 1, 0, 0), (3, .invokevirtual 116, 87, 2, 0), (6, .ifCond .ne 7, 13, 0, 0), (9, .iconst 1, 0, 0, 1), (10, .goto 4, 14, 0, 0), (13, .iconst 0, 0, 0, 0), (14, .invokevirtual 102, 79, 2, 0), (17, .ifCond .eq 5, 22, 0, 0), (20, .iconst 0, 0, 0, 0), (21, .ireturn, 0, 1, 0), (22, .aload_n 0, 0, 0, 0), (23, .iconst 0, 0, 0, 0), (24, .putfield 106, 6, 14, 0), (27, .aload_n 0, 0, 0, 0), (28, .getfield 23, 6, 9, 0), (31, .iload_n 1, 1, 0, 0)]
def pcX6_shield_1 : List pmE := [(32, .aload_n 0, 0, 0, 0), (33, .getfield 23, 6, 9, 0), (36, .iload_n 1, 1, 0, 0), (37, .baload, 0, 0, 0), (38, .ifCond .ne 7, 45, 0, 0), (41, .iconst 1, 0, 0, 1), (42, .goto 4, 46, 0, 0), (45, .iconst 0, 0, 0, 0), (46, .bastore, 0, 0, 0), (47, .aload_n 0, 0, 0, 0), (48, .getfield 23, 6, 9, 0), (51, .iload_n 1, 1, 0, 0), (52, .baload, 0, 0, 0), (53, .ireturn, 0, 1, 0)]
def pcX6_shield : List (List pmE) := [pcX6_shield_0, pcX6_shield_1]
def pcX6_apart_0 : List pmE := [(0, .iload_n 0, 0, 0, 0), (1, .iload_n 1, 1, 0, 0), (2, .if_icmp .ge 9, 11, 0, 0), (5, .iload_n 1, 1, 0, 0), (6, .iload_n 0, 0, 0, 0), (7, .isub, 0, 0, 0), (8, .goto 6, 14, 0, 0), (11, .iload_n 0, 0, 0, 0), (12, .iload_n 1, 1, 0, 0), (13, .isub, 0, 0, 0), (14, .ireturn, 0, 0, 0)]
def pcX6_apart : List (List pmE) := [pcX6_apart_0]
def pcX6_clashes_0 : List pmE := [(0, .aload_n 0, 0, 0, 0), (1, .getfield 7, 6, 4, 0), (4, .aload_n 0, 0, 0, 0), (5, .iload_n 2, 2, 0, 0), (6, .invokevirtual 130, 82, 2, 0), (9, .iaload, 0, 0, 0), (10, .aload_n 0, 0, 0, 0), (11, .getfield 23, 6, 9, 0), (14, .iload_n 1, 1, 0, 0), (15, .baload, 0, 0, 0), (16, .ifCond .ne 12, 28, 0, 0), (19, .aload_n 0, 0, 0, 0), (20, .getfield 23, 6, 9, 0), (23, .iload_n 3, 3, 0, 0), (24, .baload, 0, 0, 0), (25, .ifCond .eq 7, 32, 0, 0), (28, .iconst 1, 0, 0, 1), (29, .goto 4, 33, 0, 0)]
def pcX6_clashes_1 : List pmE := [(32, .iconst 0, 0, 0, 0), (33, .iadd, 0, 0, 0), (34, .istore 5, 5, 0, 0), (36, .iload_n 1, 1, 0, 0), (37, .iload_n 3, 3, 0, 0), (38, .if_icmp .eq 59, 97, 0, 0), (41, .aload_n 0, 0, 0, 0), (42, .iload_n 2, 2, 0, 0), (43, .invokevirtual 130, 82, 2, 0), (46, .aload_n 0, 0, 0, 0), (47, .iload 4, 4, 0, 0), (49, .invokevirtual 130, 82, 2, 0), (52, .if_icmp .ne 45, 97, 0, 0), (55, .aload_n 0, 0, 0, 0), (56, .iload_n 2, 2, 0, 0), (57, .invokevirtual 134, 83, 2, 0), (60, .aload_n 0, 0, 0, 0), (61, .iload 4, 4, 0, 0), (63, .invokevirtual 134, 83, 2, 0)]
def pcX6_clashes_2 : List pmE := [(66, .invokestatic 140, 93, 2, 0), (69, .iload 5, 5, 0, 0), (71, .if_icmp .gt 26, 97, 0, 0), (74, .aload_n 0, 0, 0, 0), (75, .iload_n 2, 2, 0, 0), (76, .invokevirtual 137, 84, 2, 0), (79, .aload_n 0, 0, 0, 0), (80, .iload 4, 4, 0, 0), (82, .invokevirtual 137, 84, 2, 0), (85, .invokestatic 140, 93, 2, 0), (88, .iload 5, 5, 0, 0), (90, .if_icmp .gt 7, 97, 0, 0), (93, .iconst 1, 0, 0, 1), (94, .goto 4, 98, 0, 0)]
def pcX6_clashes_3 : List pmE := [(97, .iconst 0, 0, 0, 0), (98, .ireturn, 0, 1, 0)]
def pcX6_clashes : List (List pmE) := [pcX6_clashes_0, pcX6_clashes_1, pcX6_clashes_2, pcX6_clashes_3]
def pcX6_placeOfPin_0 : List pmE := [(0, .aload_n 0, 0, 0, 0), (1, .getfield 35, 6, 15, 0), (4, .iload_n 1, 1, 0, 0), (5, .iaload, 0, 0, 0), (6, .iconst (-1), 0, 0, -1), (7, .if_icmp .ne 7, 14, 0, 0), (10, .iconst (-1), 0, 0, -1), (11, .goto 18, 29, 0, 0), (14, .aload_n 0, 0, 0, 0), (15, .getfield 29, 6, 12, 0), (18, .iconst 4, 0, 0, 4), (19, .iload_n 1, 1, 0, 0), (20, .imul, 0, 0, 0), (21, .aload_n 0, 0, 0, 0), (22, .getfield 35, 6, 15, 0), (25, .iload_n 1, 1, 0, 0), (26, .iaload, 0, 0, 0), (27, .iadd, 0, 0, 0), (28, .iaload, 0, 0, 0), (29, .ireturn, 0, 0, 0)]
def pcX6_placeOfPin : List (List pmE) := [pcX6_placeOfPin_0]
def pcX6_mayBe_0 : List pmE := [(0, .aload_n 0, 0, 0, 0), (1, .getfield 19, 6, 7, 0), (4, .iload_n 2, 2, 0, 0), (5, .baload, 0, 0, 0), (6, .ifCond .ne 7, 13, 0, 0), (9, .iconst 1, 0, 0, 1), (10, .goto 4, 14, 0, 0), (13, .iconst 0, 0, 0, 0), (14, .istore_n 3, 3, 0, 0), (15, .iconst 0, 0, 0, 0), (16, .istore 4, 4, 0, 0), (18, .iload 4, 4, 0, 0), (20, .iload_n 1, 1, 0, 0), (21, .if_icmp .ge 56, 77, 0, 0), (24, .aload_n 0, 0, 0, 0), (25, .iload 4, 4, 0, 0), (27, .invokevirtual 144, 95, 2, 0), (30, .istore 5, 5, 0, 0)]
def pcX6_mayBe_1 : List pmE := [(32, .iload_n 3, 3, 0, 0), (33, .ifCond .eq 36, 69, 0, 0), (36, .iload 5, 5, 0, 0), (38, .iconst (-1), 0, 0, -1), (39, .if_icmp .eq 26, 65, 0, 0), (42, .aload_n 0, 0, 0, 0), (43, .aload_n 0, 0, 0, 0), (44, .getfield 26, 6, 11, 0), (47, .iload_n 1, 1, 0, 0), (48, .iaload, 0, 0, 0), (49, .iload_n 2, 2, 0, 0), (50, .aload_n 0, 0, 0, 0), (51, .getfield 26, 6, 11, 0), (54, .iload 4, 4, 0, 0), (56, .iaload, 0, 0, 0), (57, .iload 5, 5, 0, 0), (59, .invokevirtual 147, 94, 5, 0), (62, .ifCond .ne 7, 69, 0, 0)]
def pcX6_mayBe_2 : List pmE := [(65, .iconst 1, 0, 0, 1), (66, .goto 4, 70, 0, 0), (69, .iconst 0, 0, 0, 0), (70, .istore_n 3, 3, 0, 0), (71, .iinc 4 1, 4, 0, 1), (74, .goto (-56), 18, 0, 0), (77, .iload_n 3, 3, 0, 0), (78, .ireturn, 0, 1, 0)]
def pcX6_mayBe : List (List pmE) := [pcX6_mayBe_0, pcX6_mayBe_1, pcX6_mayBe_2]
def pcX6_pick_0 : List pmE := [(0, .iconst 0, 0, 0, 0), (1, .istore_n 1, 1, 0, 0), (2, .iload_n 1, 1, 0, 0), (3, .aload_n 0, 0, 0, 0), (4, .getfield 110, 6, 8, 0), (7, .if_icmp .ge 16, 23, 0, 0), (10, .aload_n 0, 0, 0, 0), (11, .getfield 38, 6, 16, 0), (14, .iload_n 1, 1, 0, 0), (15, .iconst 0, 0, 0, 0), (16, .bastore, 0, 0, 0), (17, .iinc 1 1, 1, 0, 1), (20, .goto (-18), 2, 0, 0), (23, .iconst 0, 0, 0, 0), (24, .istore_n 1, 1, 0, 0), (25, .iload_n 1, 1, 0, 0), (26, .aload_n 0, 0, 0, 0), (27, .getfield 113, 6, 10, 0), (30, .if_icmp .ge 109, 139, 0, 0)]
def pcX6_pick_1 : List pmE := [(33, .aload_n 0, 0, 0, 0), (34, .getfield 35, 6, 15, 0), (37, .iload_n 1, 1, 0, 0), (38, .iconst (-1), 0, 0, -1), (39, .iastore, 0, 0, 0), (40, .aload_n 0, 0, 0, 0), (41, .getfield 32, 6, 13, 0), (44, .iload_n 1, 1, 0, 0), (45, .iaload, 0, 0, 0), (46, .iconst 1, 0, 0, 1), (47, .isub, 0, 0, 0), (48, .istore_n 2, 2, 0, 0), (49, .iload_n 2, 2, 0, 0), (50, .ifCond .lt 43, 93, 0, 0), (53, .aload_n 0, 0, 0, 0), (54, .getfield 35, 6, 15, 0), (57, .iload_n 1, 1, 0, 0), (58, .aload_n 0, 0, 0, 0), (59, .iload_n 1, 1, 0, 0), (60, .aload_n 0, 0, 0, 0), (61, .getfield 29, 6, 12, 0)]
def pcX6_pick_2 : List pmE := [(64, .iconst 4, 0, 0, 4), (65, .iload_n 1, 1, 0, 0), (66, .imul, 0, 0, 0), (67, .iload_n 2, 2, 0, 0), (68, .iadd, 0, 0, 0), (69, .iaload, 0, 0, 0), (70, .invokevirtual 151, 96, 3, 0), (73, .ifCond .eq 7, 80, 0, 0), (76, .iload_n 2, 2, 0, 0), (77, .goto 9, 86, 0, 0), (80, .aload_n 0, 0, 0, 0), (81, .getfield 35, 6, 15, 0), (84, .iload_n 1, 1, 0, 0), (85, .iaload, 0, 0, 0), (86, .iastore, 0, 0, 0), (87, .iinc 2 (-1), 2, 0, -1), (90, .goto (-41), 49, 0, 0), (93, .aload_n 0, 0, 0, 0), (94, .getfield 38, 6, 16, 0)]
def pcX6_pick_3 : List pmE := [(97, .aload_n 0, 0, 0, 0), (98, .getfield 26, 6, 11, 0), (101, .iload_n 1, 1, 0, 0), (102, .iaload, 0, 0, 0), (103, .aload_n 0, 0, 0, 0), (104, .getfield 38, 6, 16, 0), (107, .aload_n 0, 0, 0, 0), (108, .getfield 26, 6, 11, 0), (111, .iload_n 1, 1, 0, 0), (112, .iaload, 0, 0, 0), (113, .baload, 0, 0, 0), (114, .ifCond .ne 13, 127, 0, 0), (117, .aload_n 0, 0, 0, 0), (118, .getfield 35, 6, 15, 0), (121, .iload_n 1, 1, 0, 0), (122, .iaload, 0, 0, 0), (123, .iconst (-1), 0, 0, -1), (124, .if_icmp .ne 7, 131, 0, 0), (127, .iconst 1, 0, 0, 1)]
def pcX6_pick_4 : List pmE := [(128, .goto 4, 132, 0, 0), (131, .iconst 0, 0, 0, 0), (132, .bastore, 0, 0, 0), (133, .iinc 1 1, 1, 0, 1), (136, .goto (-111), 25, 0, 0), (139, .return_, 0, 0, 0)]
def pcX6_pick : List (List pmE) := [pcX6_pick_0, pcX6_pick_1, pcX6_pick_2, pcX6_pick_3, pcX6_pick_4]
def pcX6_mark_0 : List pmE := [(0, .aload_n 0, 0, 0, 0), (1, .getfield 7, 6, 4, 0), (4, .aload_n 0, 0, 0, 0), (5, .iload 4, 4, 0, 0), (7, .invokevirtual 130, 82, 2, 0), (10, .iaload, 0, 0, 0), (11, .aload_n 0, 0, 0, 0), (12, .getfield 23, 6, 9, 0), (15, .iload_n 2, 2, 0, 0), (16, .baload, 0, 0, 0), (17, .ifCond .ne 12, 29, 0, 0), (20, .aload_n 0, 0, 0, 0), (21, .getfield 23, 6, 9, 0), (24, .iload_n 3, 3, 0, 0), (25, .baload, 0, 0, 0), (26, .ifCond .eq 7, 33, 0, 0), (29, .iconst 1, 0, 0, 1), (30, .goto 4, 34, 0, 0)]
def pcX6_mark_1 : List pmE := [(33, .iconst 0, 0, 0, 0), (34, .iadd, 0, 0, 0), (35, .istore 5, 5, 0, 0), (37, .iload 5, 5, 0, 0), (39, .ineg, 0, 0, 0), (40, .istore 6, 6, 0, 0), (42, .iload 6, 6, 0, 0), (44, .iload 5, 5, 0, 0), (46, .if_icmp .gt 70, 116, 0, 0), (49, .iload 5, 5, 0, 0), (51, .ineg, 0, 0, 0), (52, .istore 7, 7, 0, 0), (54, .iload 7, 7, 0, 0), (56, .iload 5, 5, 0, 0), (58, .if_icmp .gt 52, 110, 0, 0), (61, .aload_n 0, 0, 0, 0), (62, .aload_n 0, 0, 0, 0), (63, .iload 4, 4, 0, 0)]
def pcX6_mark_2 : List pmE := [(65, .invokevirtual 130, 82, 2, 0), (68, .aload_n 0, 0, 0, 0), (69, .iload 4, 4, 0, 0), (71, .invokevirtual 134, 83, 2, 0), (74, .iload 7, 7, 0, 0), (76, .iadd, 0, 0, 0), (77, .i2l, 0, 0, 0), (78, .aload_n 0, 0, 0, 0), (79, .iload 4, 4, 0, 0), (81, .invokevirtual 137, 84, 2, 0), (84, .iload 6, 6, 0, 0), (86, .iadd, 0, 0, 0), (87, .i2l, 0, 0, 0), (88, .invokevirtual 119, 81, 4, 0), (91, .istore 8, 8, 0, 0), (93, .iload 8, 8, 0, 0), (95, .iconst (-1), 0, 0, -1)]
def pcX6_mark_3 : List pmE := [(96, .if_icmp .eq 8, 104, 0, 0), (99, .aload_n 1, 1, 0, 0), (100, .iload 8, 8, 0, 0), (102, .iconst 1, 0, 0, 1), (103, .bastore, 0, 0, 0), (104, .iinc 7 1, 7, 0, 1), (107, .goto (-53), 54, 0, 0), (110, .iinc 6 1, 6, 0, 1), (113, .goto (-71), 42, 0, 0), (116, .return_, 0, 0, 0)]
def pcX6_mark : List (List pmE) := [pcX6_mark_0, pcX6_mark_1, pcX6_mark_2, pcX6_mark_3]
def pcX6_markAll_0 : List pmE := [(0, .iconst 0, 0, 0, 0), (1, .istore_n 2, 2, 0, 0), (2, .iload_n 2, 2, 0, 0), (3, .aload_n 0, 0, 0, 0), (4, .invokevirtual 126, 80, 1, 0), (7, .if_icmp .ge 23, 30, 0, 0), (10, .aload_n 0, 0, 0, 0), (11, .getfield 62, 6, 27, 0), (14, .iload_n 2, 2, 0, 0), (15, .iconst 0, 0, 0, 0), (16, .bastore, 0, 0, 0), (17, .aload_n 0, 0, 0, 0), (18, .getfield 65, 6, 28, 0), (21, .iload_n 2, 2, 0, 0), (22, .iconst 0, 0, 0, 0), (23, .bastore, 0, 0, 0), (24, .iinc 2 1, 2, 0, 1), (27, .goto (-25), 2, 0, 0), (30, .iconst 0, 0, 0, 0), (31, .istore_n 2, 2, 0, 0)]
def pcX6_markAll_1 : List pmE := [(32, .iload_n 2, 2, 0, 0), (33, .aload_n 0, 0, 0, 0), (34, .getfield 113, 6, 10, 0), (37, .if_icmp .ge 49, 86, 0, 0), (40, .aload_n 0, 0, 0, 0), (41, .getfield 26, 6, 11, 0), (44, .iload_n 2, 2, 0, 0), (45, .iaload, 0, 0, 0), (46, .iload_n 1, 1, 0, 0), (47, .if_icmp .eq 33, 80, 0, 0), (50, .aload_n 0, 0, 0, 0), (51, .getfield 35, 6, 15, 0), (54, .iload_n 2, 2, 0, 0), (55, .iaload, 0, 0, 0), (56, .iconst (-1), 0, 0, -1), (57, .if_icmp .eq 23, 80, 0, 0), (60, .aload_n 0, 0, 0, 0), (61, .aload_n 0, 0, 0, 0), (62, .getfield 62, 6, 27, 0)]
def pcX6_markAll_2 : List pmE := [(65, .iload_n 1, 1, 0, 0), (66, .aload_n 0, 0, 0, 0), (67, .getfield 26, 6, 11, 0), (70, .iload_n 2, 2, 0, 0), (71, .iaload, 0, 0, 0), (72, .aload_n 0, 0, 0, 0), (73, .iload_n 2, 2, 0, 0), (74, .invokevirtual 144, 95, 2, 0), (77, .invokevirtual 155, 98, 5, 0), (80, .iinc 2 1, 2, 0, 1), (83, .goto (-51), 32, 0, 0), (86, .iconst 0, 0, 0, 0), (87, .istore_n 2, 2, 0, 0), (88, .iload_n 2, 2, 0, 0), (89, .aload_n 0, 0, 0, 0), (90, .getfield 110, 6, 8, 0), (93, .if_icmp .ge 56, 149, 0, 0)]
def pcX6_markAll_3 : List pmE := [(96, .iconst 0, 0, 0, 0), (97, .istore_n 3, 3, 0, 0), (98, .iload_n 3, 3, 0, 0), (99, .aload_n 0, 0, 0, 0), (100, .invokevirtual 126, 80, 1, 0), (103, .if_icmp .ge 40, 143, 0, 0), (106, .iload_n 2, 2, 0, 0), (107, .iload_n 1, 1, 0, 0), (108, .if_icmp .eq 35, 143, 0, 0), (111, .aload_n 0, 0, 0, 0), (112, .getfield 50, 6, 20, 0), (115, .sipush 1728, 0, 0, 1728), (118, .iload_n 2, 2, 0, 0), (119, .imul, 0, 0, 0), (120, .iload_n 3, 3, 0, 0), (121, .iadd, 0, 0, 0), (122, .baload, 0, 0, 0), (123, .ifCond .eq 14, 137, 0, 0), (126, .aload_n 0, 0, 0, 0), (127, .aload_n 0, 0, 0, 0)]
def pcX6_markAll_4 : List pmE := [(128, .getfield 65, 6, 28, 0), (131, .iload_n 1, 1, 0, 0), (132, .iload_n 2, 2, 0, 0), (133, .iload_n 3, 3, 0, 0), (134, .invokevirtual 155, 98, 5, 0), (137, .iinc 3 1, 3, 0, 1), (140, .goto (-42), 98, 0, 0), (143, .iinc 2 1, 2, 0, 1), (146, .goto (-58), 88, 0, 0), (149, .return_, 0, 0, 0)]
def pcX6_markAll : List (List pmE) := [pcX6_markAll_0, pcX6_markAll_1, pcX6_markAll_2, pcX6_markAll_3, pcX6_markAll_4]
def pcX6_beside_0 : List pmE := [(0, .aload_n 0, 0, 0, 0), (1, .iload_n 1, 1, 0, 0), (2, .invokevirtual 130, 82, 2, 0), (5, .iload_n 2, 2, 0, 0), (6, .iconst 4, 0, 0, 4), (7, .if_icmp .ne 7, 14, 0, 0), (10, .iconst (-1), 0, 0, -1), (11, .goto 13, 24, 0, 0), (14, .iload_n 2, 2, 0, 0), (15, .iconst 5, 0, 0, 5), (16, .if_icmp .ne 7, 23, 0, 0), (19, .iconst 1, 0, 0, 1), (20, .goto 4, 24, 0, 0), (23, .iconst 0, 0, 0, 0), (24, .iadd, 0, 0, 0), (25, .istore_n 3, 3, 0, 0), (26, .aload_n 0, 0, 0, 0), (27, .iload_n 1, 1, 0, 0), (28, .invokevirtual 134, 83, 2, 0), (31, .iload_n 2, 2, 0, 0)]
def pcX6_beside_1 : List pmE := [(32, .ifCond .ne 7, 39, 0, 0), (35, .iconst (-1), 0, 0, -1), (36, .goto 13, 49, 0, 0), (39, .iload_n 2, 2, 0, 0), (40, .iconst 1, 0, 0, 1), (41, .if_icmp .ne 7, 48, 0, 0), (44, .iconst 1, 0, 0, 1), (45, .goto 4, 49, 0, 0), (48, .iconst 0, 0, 0, 0), (49, .iadd, 0, 0, 0), (50, .istore 4, 4, 0, 0), (52, .aload_n 0, 0, 0, 0), (53, .iload_n 1, 1, 0, 0), (54, .invokevirtual 137, 84, 2, 0), (57, .iload_n 2, 2, 0, 0), (58, .iconst 2, 0, 0, 2), (59, .if_icmp .ne 7, 66, 0, 0), (62, .iconst (-1), 0, 0, -1), (63, .goto 13, 76, 0, 0)]
def pcX6_beside_2 : List pmE := [(66, .iload_n 2, 2, 0, 0), (67, .iconst 3, 0, 0, 3), (68, .if_icmp .ne 7, 75, 0, 0), (71, .iconst 1, 0, 0, 1), (72, .goto 4, 76, 0, 0), (75, .iconst 0, 0, 0, 0), (76, .iadd, 0, 0, 0), (77, .istore 5, 5, 0, 0), (79, .aload_n 0, 0, 0, 0), (80, .iload_n 3, 3, 0, 0), (81, .iload 4, 4, 0, 0), (83, .i2l, 0, 0, 0), (84, .iload 5, 5, 0, 0), (86, .i2l, 0, 0, 0), (87, .invokevirtual 119, 81, 4, 0), (90, .ireturn, 0, 0, 0)]
def pcX6_beside : List (List pmE) := [pcX6_beside_0, pcX6_beside_1, pcX6_beside_2]
def pcX6_stepCost_0 : List pmE := [(0, .aload_n 0, 0, 0, 0), (1, .iload_n 1, 1, 0, 0), (2, .invokevirtual 130, 82, 2, 0), (5, .istore_n 3, 3, 0, 0), (6, .iload_n 2, 2, 0, 0), (7, .iconst 3, 0, 0, 3), (8, .if_icmp .le 26, 34, 0, 0), (11, .iload_n 2, 2, 0, 0), (12, .iconst 4, 0, 0, 4), (13, .if_icmp .ne 14, 27, 0, 0), (16, .aload_n 0, 0, 0, 0), (17, .getfield 16, 6, 6, 0), (20, .iload_n 3, 3, 0, 0), (21, .iconst 1, 0, 0, 1), (22, .isub, 0, 0, 0), (23, .iaload, 0, 0, 0), (24, .goto 9, 33, 0, 0), (27, .aload_n 0, 0, 0, 0), (28, .getfield 16, 6, 6, 0), (31, .iload_n 3, 3, 0, 0)]
def pcX6_stepCost_1 : List pmE := [(32, .iaload, 0, 0, 0), (33, .ireturn, 0, 0, 0), (34, .iload_n 2, 2, 0, 0), (35, .iconst 2, 0, 0, 2), (36, .if_icmp .ge 7, 43, 0, 0), (39, .iconst 1, 0, 0, 1), (40, .goto 4, 44, 0, 0), (43, .iconst 0, 0, 0, 0), (44, .iload_n 3, 3, 0, 0), (45, .iconst 2, 0, 0, 2), (46, .irem, 0, 0, 0), (47, .ifCond .ne 7, 54, 0, 0), (50, .iconst 1, 0, 0, 1), (51, .goto 4, 55, 0, 0), (54, .iconst 0, 0, 0, 0), (55, .if_icmp .ne 7, 62, 0, 0), (58, .iconst 1, 0, 0, 1), (59, .goto 4, 63, 0, 0), (62, .iconst 0, 0, 0, 0), (63, .istore 4, 4, 0, 0)]
def pcX6_stepCost_2 : List pmE := [(65, .iload 4, 4, 0, 0), (67, .ifCond .eq 7, 74, 0, 0), (70, .iconst 1, 0, 0, 1), (71, .goto 11, 82, 0, 0), (74, .iconst 1, 0, 0, 1), (75, .aload_n 0, 0, 0, 0), (76, .getfield 13, 6, 5, 0), (79, .iload_n 3, 3, 0, 0), (80, .iaload, 0, 0, 0), (81, .iadd, 0, 0, 0), (82, .ireturn, 0, 0, 0)]
def pcX6_stepCost : List (List pmE) := [pcX6_stepCost_0, pcX6_stepCost_1, pcX6_stepCost_2]
def pcX6_isOpen_0 : List pmE := [(0, .aload_n 0, 0, 0, 0), (1, .getfield 19, 6, 7, 0), (4, .iload_n 1, 1, 0, 0), (5, .baload, 0, 0, 0), (6, .ifCond .ne 29, 35, 0, 0), (9, .aload_n 0, 0, 0, 0), (10, .getfield 62, 6, 27, 0), (13, .iload_n 1, 1, 0, 0), (14, .baload, 0, 0, 0), (15, .ifCond .ne 20, 35, 0, 0), (18, .iload_n 2, 2, 0, 0), (19, .ifCond .ne 12, 31, 0, 0), (22, .aload_n 0, 0, 0, 0), (23, .getfield 65, 6, 28, 0), (26, .iload_n 1, 1, 0, 0), (27, .baload, 0, 0, 0), (28, .ifCond .ne 7, 35, 0, 0), (31, .iconst 1, 0, 0, 1)]
def pcX6_isOpen_1 : List pmE := [(32, .goto 4, 36, 0, 0), (35, .iconst 0, 0, 0, 0), (36, .ireturn, 0, 1, 0)]
def pcX6_isOpen : List (List pmE) := [pcX6_isOpen_0, pcX6_isOpen_1]
def pcX6_extra_0 : List pmE := [(0, .aload_n 0, 0, 0, 0), (1, .getfield 47, 6, 19, 0), (4, .iload_n 1, 1, 0, 0), (5, .iaload, 0, 0, 0), (6, .aload_n 0, 0, 0, 0), (7, .getfield 65, 6, 28, 0), (10, .iload_n 1, 1, 0, 0), (11, .baload, 0, 0, 0), (12, .ifCond .eq 8, 20, 0, 0), (15, .bipush 20, 0, 0, 20), (17, .goto 4, 21, 0, 0), (20, .iconst 0, 0, 0, 0), (21, .iadd, 0, 0, 0), (22, .ireturn, 0, 0, 0)]
def pcX6_extra : List (List pmE) := [pcX6_extra_0]
def pcX6_lower_0 : List pmE := [(0, .iconst 0, 0, 0, 0), (1, .istore_n 2, 2, 0, 0), (2, .iload_n 2, 2, 0, 0), (3, .aload_n 0, 0, 0, 0), (4, .invokevirtual 126, 80, 1, 0), (7, .if_icmp .ge 30, 37, 0, 0), (10, .aload_n 0, 0, 0, 0), (11, .getfield 68, 6, 29, 0), (14, .iload_n 2, 2, 0, 0), (15, .aload_n 0, 0, 0, 0), (16, .getfield 56, 6, 25, 0), (19, .iload_n 2, 2, 0, 0), (20, .baload, 0, 0, 0), (21, .ifCond .eq 7, 28, 0, 0), (24, .iconst 0, 0, 0, 0), (25, .goto 5, 30, 0, 0), (28, .ldc 159, 0, 0, 1000000000), (30, .iastore, 0, 0, 0), (31, .iinc 2 1, 2, 0, 1)]
def pcX6_lower_1 : List pmE := [(34, .goto (-32), 2, 0, 0), (37, .iconst 1, 0, 0, 1), (38, .istore_n 2, 2, 0, 0), (39, .iload_n 2, 2, 0, 0), (40, .ifCond .eq 144, 184, 0, 0), (43, .iconst 0, 0, 0, 0), (44, .istore_n 2, 2, 0, 0), (45, .iconst 0, 0, 0, 0), (46, .istore_n 3, 3, 0, 0), (47, .iload_n 3, 3, 0, 0), (48, .aload_n 0, 0, 0, 0), (49, .invokevirtual 126, 80, 1, 0), (52, .if_icmp .ge 129, 181, 0, 0), (55, .iconst 0, 0, 0, 0), (56, .istore 4, 4, 0, 0), (58, .iload 4, 4, 0, 0), (60, .bipush 6, 0, 0, 6), (62, .if_icmp .ge 113, 175, 0, 0)]
def pcX6_lower_2 : List pmE := [(65, .aload_n 0, 0, 0, 0), (66, .getfield 56, 6, 25, 0), (69, .iload_n 3, 3, 0, 0), (70, .baload, 0, 0, 0), (71, .ifCond .ne 104, 175, 0, 0), (74, .aload_n 0, 0, 0, 0), (75, .iload_n 3, 3, 0, 0), (76, .iload_n 1, 1, 0, 0), (77, .invokevirtual 160, 102, 3, 0), (80, .ifCond .eq 95, 175, 0, 0), (83, .aload_n 0, 0, 0, 0), (84, .iload_n 3, 3, 0, 0), (85, .iload 4, 4, 0, 0), (87, .invokevirtual 164, 100, 3, 0), (90, .istore 5, 5, 0, 0), (92, .iload 5, 5, 0, 0), (94, .iconst (-1), 0, 0, -1), (95, .if_icmp .eq 74, 169, 0, 0)]
def pcX6_lower_3 : List pmE := [(98, .aload_n 0, 0, 0, 0), (99, .getfield 68, 6, 29, 0), (102, .iload 5, 5, 0, 0), (104, .iaload, 0, 0, 0), (105, .ldc 159, 0, 0, 1000000000), (107, .if_icmp .ge 62, 169, 0, 0), (110, .aload_n 0, 0, 0, 0), (111, .getfield 68, 6, 29, 0), (114, .iload 5, 5, 0, 0), (116, .iaload, 0, 0, 0), (117, .aload_n 0, 0, 0, 0), (118, .iload_n 3, 3, 0, 0), (119, .iload 4, 4, 0, 0), (121, .invokevirtual 167, 101, 3, 0), (124, .iadd, 0, 0, 0), (125, .aload_n 0, 0, 0, 0), (126, .iload_n 3, 3, 0, 0), (127, .invokevirtual 170, 103, 2, 0)]
def pcX6_lower_4 : List pmE := [(130, .iadd, 0, 0, 0), (131, .aload_n 0, 0, 0, 0), (132, .getfield 68, 6, 29, 0), (135, .iload_n 3, 3, 0, 0), (136, .iaload, 0, 0, 0), (137, .if_icmp .ge 32, 169, 0, 0), (140, .aload_n 0, 0, 0, 0), (141, .getfield 68, 6, 29, 0), (144, .iload_n 3, 3, 0, 0), (145, .aload_n 0, 0, 0, 0), (146, .getfield 68, 6, 29, 0), (149, .iload 5, 5, 0, 0), (151, .iaload, 0, 0, 0), (152, .aload_n 0, 0, 0, 0), (153, .iload_n 3, 3, 0, 0), (154, .iload 4, 4, 0, 0), (156, .invokevirtual 167, 101, 3, 0), (159, .iadd, 0, 0, 0)]
def pcX6_lower_5 : List pmE := [(160, .aload_n 0, 0, 0, 0), (161, .iload_n 3, 3, 0, 0), (162, .invokevirtual 170, 103, 2, 0), (165, .iadd, 0, 0, 0), (166, .iastore, 0, 0, 0), (167, .iconst 1, 0, 0, 1), (168, .istore_n 2, 2, 0, 0), (169, .iinc 4 1, 4, 0, 1), (172, .goto (-114), 58, 0, 0), (175, .iinc 3 1, 3, 0, 1), (178, .goto (-131), 47, 0, 0), (181, .goto (-142), 39, 0, 0), (184, .return_, 0, 0, 0)]
def pcX6_lower : List (List pmE) := [pcX6_lower_0, pcX6_lower_1, pcX6_lower_2, pcX6_lower_3, pcX6_lower_4, pcX6_lower_5]
def pcX6_goal_0 : List pmE := [(0, .iconst (-1), 0, 0, -1), (1, .istore_n 2, 2, 0, 0), (2, .iconst 0, 0, 0, 0), (3, .istore_n 3, 3, 0, 0), (4, .iload_n 3, 3, 0, 0), (5, .aload_n 0, 0, 0, 0), (6, .getfield 113, 6, 10, 0), (9, .if_icmp .ge 110, 119, 0, 0), (12, .aload_n 0, 0, 0, 0), (13, .iload_n 3, 3, 0, 0), (14, .invokevirtual 144, 95, 2, 0), (17, .istore 4, 4, 0, 0), (19, .aload_n 0, 0, 0, 0), (20, .getfield 26, 6, 11, 0), (23, .iload_n 3, 3, 0, 0), (24, .iaload, 0, 0, 0), (25, .iload_n 1, 1, 0, 0), (26, .if_icmp .ne 87, 113, 0, 0), (29, .aload_n 0, 0, 0, 0), (30, .getfield 56, 6, 25, 0)]
def pcX6_goal_1 : List pmE := [(33, .iload 4, 4, 0, 0), (35, .baload, 0, 0, 0), (36, .ifCond .ne 77, 113, 0, 0), (39, .aload_n 0, 0, 0, 0), (40, .getfield 68, 6, 29, 0), (43, .iload 4, 4, 0, 0), (45, .iaload, 0, 0, 0), (46, .ldc 159, 0, 0, 1000000000), (48, .if_icmp .ge 65, 113, 0, 0), (51, .iload_n 2, 2, 0, 0), (52, .iconst (-1), 0, 0, -1), (53, .if_icmp .eq 41, 94, 0, 0), (56, .aload_n 0, 0, 0, 0), (57, .getfield 68, 6, 29, 0), (60, .iload 4, 4, 0, 0), (62, .iaload, 0, 0, 0), (63, .aload_n 0, 0, 0, 0)]
def pcX6_goal_2 : List pmE := [(64, .getfield 68, 6, 29, 0), (67, .iload_n 2, 2, 0, 0), (68, .iaload, 0, 0, 0), (69, .if_icmp .lt 25, 94, 0, 0), (72, .aload_n 0, 0, 0, 0), (73, .getfield 68, 6, 29, 0), (76, .iload 4, 4, 0, 0), (78, .iaload, 0, 0, 0), (79, .aload_n 0, 0, 0, 0), (80, .getfield 68, 6, 29, 0), (83, .iload_n 2, 2, 0, 0), (84, .iaload, 0, 0, 0), (85, .if_icmp .ne 13, 98, 0, 0), (88, .iload 4, 4, 0, 0), (90, .iload_n 2, 2, 0, 0), (91, .if_icmp .ge 7, 98, 0, 0), (94, .iconst 1, 0, 0, 1), (95, .goto 4, 99, 0, 0)]
def pcX6_goal_3 : List pmE := [(98, .iconst 0, 0, 0, 0), (99, .istore 5, 5, 0, 0), (101, .iload 5, 5, 0, 0), (103, .ifCond .eq 8, 111, 0, 0), (106, .iload 4, 4, 0, 0), (108, .goto 4, 112, 0, 0), (111, .iload_n 2, 2, 0, 0), (112, .istore_n 2, 2, 0, 0), (113, .iinc 3 1, 3, 0, 1), (116, .goto (-112), 4, 0, 0), (119, .iload_n 2, 2, 0, 0), (120, .ireturn, 0, 0, 0)]
def pcX6_goal : List (List pmE) := [pcX6_goal_0, pcX6_goal_1, pcX6_goal_2, pcX6_goal_3]
def pcX6_isDone_0 : List pmE := [(0, .iconst 1, 0, 0, 1), (1, .istore_n 2, 2, 0, 0), (2, .iconst 0, 0, 0, 0), (3, .istore_n 3, 3, 0, 0), (4, .iload_n 3, 3, 0, 0), (5, .aload_n 0, 0, 0, 0), (6, .getfield 113, 6, 10, 0), (9, .if_icmp .ge 42, 51, 0, 0), (12, .iload_n 2, 2, 0, 0), (13, .ifCond .eq 30, 43, 0, 0), (16, .aload_n 0, 0, 0, 0), (17, .getfield 26, 6, 11, 0), (20, .iload_n 3, 3, 0, 0), (21, .iaload, 0, 0, 0), (22, .iload_n 1, 1, 0, 0), (23, .if_icmp .ne 16, 39, 0, 0), (26, .aload_n 0, 0, 0, 0), (27, .getfield 56, 6, 25, 0), (30, .aload_n 0, 0, 0, 0), (31, .iload_n 3, 3, 0, 0)]
def pcX6_isDone_1 : List pmE := [(32, .invokevirtual 144, 95, 2, 0), (35, .baload, 0, 0, 0), (36, .ifCond .eq 7, 43, 0, 0), (39, .iconst 1, 0, 0, 1), (40, .goto 4, 44, 0, 0), (43, .iconst 0, 0, 0, 0), (44, .istore_n 2, 2, 0, 0), (45, .iinc 3 1, 3, 0, 1), (48, .goto (-44), 4, 0, 0), (51, .iload_n 2, 2, 0, 0), (52, .ireturn, 0, 1, 0)]
def pcX6_isDone : List (List pmE) := [pcX6_isDone_0, pcX6_isDone_1]
def pcX6_backFrom_0 : List pmE := [(0, .iconst (-1), 0, 0, -1), (1, .istore_n 2, 2, 0, 0), (2, .iconst 5, 0, 0, 5), (3, .istore_n 3, 3, 0, 0), (4, .iload_n 3, 3, 0, 0), (5, .ifCond .lt 82, 87, 0, 0), (8, .aload_n 0, 0, 0, 0), (9, .iload_n 1, 1, 0, 0), (10, .iload_n 3, 3, 0, 0), (11, .invokevirtual 164, 100, 3, 0), (14, .istore 4, 4, 0, 0), (16, .iload 4, 4, 0, 0), (18, .iconst (-1), 0, 0, -1), (19, .if_icmp .eq 48, 67, 0, 0), (22, .aload_n 0, 0, 0, 0), (23, .getfield 68, 6, 29, 0), (26, .iload 4, 4, 0, 0), (28, .iaload, 0, 0, 0), (29, .ldc 159, 0, 0, 1000000000), (31, .if_icmp .ge 36, 67, 0, 0)]
def pcX6_backFrom_1 : List pmE := [(34, .aload_n 0, 0, 0, 0), (35, .getfield 68, 6, 29, 0), (38, .iload 4, 4, 0, 0), (40, .iaload, 0, 0, 0), (41, .aload_n 0, 0, 0, 0), (42, .iload_n 1, 1, 0, 0), (43, .iload_n 3, 3, 0, 0), (44, .invokevirtual 167, 101, 3, 0), (47, .iadd, 0, 0, 0), (48, .aload_n 0, 0, 0, 0), (49, .iload_n 1, 1, 0, 0), (50, .invokevirtual 170, 103, 2, 0), (53, .iadd, 0, 0, 0), (54, .aload_n 0, 0, 0, 0), (55, .getfield 68, 6, 29, 0), (58, .iload_n 1, 1, 0, 0), (59, .iaload, 0, 0, 0), (60, .if_icmp .ne 7, 67, 0, 0), (63, .iconst 1, 0, 0, 1)]
def pcX6_backFrom_2 : List pmE := [(64, .goto 4, 68, 0, 0), (67, .iconst 0, 0, 0, 0), (68, .istore 5, 5, 0, 0), (70, .iload 5, 5, 0, 0), (72, .ifCond .eq 7, 79, 0, 0), (75, .iload_n 3, 3, 0, 0), (76, .goto 4, 80, 0, 0), (79, .iload_n 2, 2, 0, 0), (80, .istore_n 2, 2, 0, 0), (81, .iinc 3 (-1), 3, 0, -1), (84, .goto (-80), 4, 0, 0), (87, .iload_n 2, 2, 0, 0), (88, .ireturn, 0, 0, 0)]
def pcX6_backFrom : List (List pmE) := [pcX6_backFrom_0, pcX6_backFrom_1, pcX6_backFrom_2]
def pcX6_tearAt_0 : List pmE := [(0, .aload_n 0, 0, 0, 0), (1, .getfield 47, 6, 19, 0), (4, .iload_n 2, 2, 0, 0), (5, .dup2, 0, 0, 0), (6, .iaload, 0, 0, 0), (7, .iconst 5, 0, 0, 5), (8, .iadd, 0, 0, 0), (9, .iastore, 0, 0, 0), (10, .iconst 0, 0, 0, 0), (11, .istore_n 3, 3, 0, 0), (12, .iload_n 3, 3, 0, 0), (13, .aload_n 0, 0, 0, 0), (14, .getfield 110, 6, 8, 0), (17, .if_icmp .ge 80, 97, 0, 0), (20, .iconst 0, 0, 0, 0), (21, .istore 4, 4, 0, 0), (23, .iload 4, 4, 0, 0), (25, .aload_n 0, 0, 0, 0), (26, .invokevirtual 126, 80, 1, 0), (29, .if_icmp .ge 62, 91, 0, 0)]
def pcX6_tearAt_1 : List pmE := [(32, .aload_n 0, 0, 0, 0), (33, .getfield 71, 6, 30, 0), (36, .iload_n 3, 3, 0, 0), (37, .baload, 0, 0, 0), (38, .ifCond .ne 53, 91, 0, 0), (41, .iload_n 3, 3, 0, 0), (42, .iload_n 1, 1, 0, 0), (43, .if_icmp .eq 48, 91, 0, 0), (46, .aload_n 0, 0, 0, 0), (47, .getfield 71, 6, 30, 0), (50, .iload_n 3, 3, 0, 0), (51, .aload_n 0, 0, 0, 0), (52, .getfield 50, 6, 20, 0), (55, .sipush 1728, 0, 0, 1728), (58, .iload_n 3, 3, 0, 0), (59, .imul, 0, 0, 0), (60, .iload 4, 4, 0, 0), (62, .iadd, 0, 0, 0), (63, .baload, 0, 0, 0)]
def pcX6_tearAt_2 : List pmE := [(64, .ifCond .eq 19, 83, 0, 0), (67, .aload_n 0, 0, 0, 0), (68, .iload_n 1, 1, 0, 0), (69, .iload_n 2, 2, 0, 0), (70, .iload_n 3, 3, 0, 0), (71, .iload 4, 4, 0, 0), (73, .invokevirtual 147, 94, 5, 0), (76, .ifCond .eq 7, 83, 0, 0), (79, .iconst 1, 0, 0, 1), (80, .goto 4, 84, 0, 0), (83, .iconst 0, 0, 0, 0), (84, .bastore, 0, 0, 0), (85, .iinc 4 1, 4, 0, 1), (88, .goto (-65), 23, 0, 0), (91, .iinc 3 1, 3, 0, 1), (94, .goto (-82), 12, 0, 0)]
def pcX6_tearAt_3 : List pmE := [(97, .return_, 0, 0, 0)]
def pcX6_tearAt : List (List pmE) := [pcX6_tearAt_0, pcX6_tearAt_1, pcX6_tearAt_2, pcX6_tearAt_3]
def pcX6_take_0 : List pmE := [(0, .iconst 0, 0, 0, 0), (1, .istore_n 3, 3, 0, 0), (2, .iload_n 3, 3, 0, 0), (3, .aload_n 0, 0, 0, 0), (4, .getfield 110, 6, 8, 0), (7, .if_icmp .ge 16, 23, 0, 0), (10, .aload_n 0, 0, 0, 0), (11, .getfield 71, 6, 30, 0), (14, .iload_n 3, 3, 0, 0), (15, .iconst 0, 0, 0, 0), (16, .bastore, 0, 0, 0), (17, .iinc 3 1, 3, 0, 1), (20, .goto (-18), 2, 0, 0), (23, .iload_n 2, 2, 0, 0), (24, .istore_n 3, 3, 0, 0), (25, .aload_n 0, 0, 0, 0), (26, .getfield 56, 6, 25, 0), (29, .iload_n 3, 3, 0, 0), (30, .baload, 0, 0, 0), (31, .ifCond .ne 71, 102, 0, 0)]
def pcX6_take_1 : List pmE := [(34, .aload_n 0, 0, 0, 0), (35, .iload_n 3, 3, 0, 0), (36, .invokevirtual 173, 107, 2, 0), (39, .istore 4, 4, 0, 0), (41, .aload_n 0, 0, 0, 0), (42, .iload_n 3, 3, 0, 0), (43, .iload 4, 4, 0, 0), (45, .invokevirtual 164, 100, 3, 0), (48, .istore 5, 5, 0, 0), (50, .iload 4, 4, 0, 0), (52, .iconst 3, 0, 0, 3), (53, .if_icmp .le 21, 74, 0, 0), (56, .aload_n 0, 0, 0, 0), (57, .getfield 59, 6, 26, 0), (60, .iload 4, 4, 0, 0), (62, .iconst 4, 0, 0, 4), (63, .if_icmp .ne 8, 71, 0, 0)]
def pcX6_take_2 : List pmE := [(66, .iload 5, 5, 0, 0), (68, .goto 4, 72, 0, 0), (71, .iload_n 3, 3, 0, 0), (72, .iconst 1, 0, 0, 1), (73, .bastore, 0, 0, 0), (74, .aload_n 0, 0, 0, 0), (75, .getfield 65, 6, 28, 0), (78, .iload_n 3, 3, 0, 0), (79, .baload, 0, 0, 0), (80, .ifCond .eq 9, 89, 0, 0), (83, .aload_n 0, 0, 0, 0), (84, .iload_n 1, 1, 0, 0), (85, .iload_n 3, 3, 0, 0), (86, .invokevirtual 176, 108, 3, 0), (89, .aload_n 0, 0, 0, 0), (90, .getfield 56, 6, 25, 0), (93, .iload_n 3, 3, 0, 0), (94, .iconst 1, 0, 0, 1), (95, .bastore, 0, 0, 0)]
def pcX6_take_3 : List pmE := [(96, .iload 5, 5, 0, 0), (98, .istore_n 3, 3, 0, 0), (99, .goto (-74), 25, 0, 0), (102, .iconst 0, 0, 0, 0), (103, .istore 4, 4, 0, 0), (105, .iload 4, 4, 0, 0), (107, .aload_n 0, 0, 0, 0), (108, .getfield 110, 6, 8, 0), (111, .if_icmp .ge 41, 152, 0, 0), (114, .aload_n 0, 0, 0, 0), (115, .getfield 71, 6, 30, 0), (118, .iload 4, 4, 0, 0), (120, .baload, 0, 0, 0), (121, .ifCond .eq 25, 146, 0, 0), (124, .aload_n 0, 0, 0, 0), (125, .iload 4, 4, 0, 0), (127, .invokevirtual 180, 110, 2, 0)]
def pcX6_take_4 : List pmE := [(130, .aload_n 0, 0, 0, 0), (131, .getfield 41, 6, 17, 0), (134, .iload 4, 4, 0, 0), (136, .iconst 0, 0, 0, 0), (137, .bastore, 0, 0, 0), (138, .aload_n 0, 0, 0, 0), (139, .getfield 44, 6, 18, 0), (142, .iload 4, 4, 0, 0), (144, .iconst 3, 0, 0, 3), (145, .iastore, 0, 0, 0), (146, .iinc 4 1, 4, 0, 1), (149, .goto (-44), 105, 0, 0), (152, .return_, 0, 0, 0)]
def pcX6_take : List (List pmE) := [pcX6_take_0, pcX6_take_1, pcX6_take_2, pcX6_take_3, pcX6_take_4]
def pcX6_dropRoute_0 : List pmE := [(0, .iconst 0, 0, 0, 0), (1, .istore_n 2, 2, 0, 0), (2, .iload_n 2, 2, 0, 0), (3, .aload_n 0, 0, 0, 0), (4, .invokevirtual 126, 80, 1, 0), (7, .if_icmp .ge 35, 42, 0, 0), (10, .aload_n 0, 0, 0, 0), (11, .getfield 50, 6, 20, 0), (14, .sipush 1728, 0, 0, 1728), (17, .iload_n 1, 1, 0, 0), (18, .imul, 0, 0, 0), (19, .iload_n 2, 2, 0, 0), (20, .iadd, 0, 0, 0), (21, .iconst 0, 0, 0, 0), (22, .bastore, 0, 0, 0), (23, .aload_n 0, 0, 0, 0), (24, .getfield 53, 6, 21, 0), (27, .sipush 1728, 0, 0, 1728), (30, .iload_n 1, 1, 0, 0), (31, .imul, 0, 0, 0)]
def pcX6_dropRoute_1 : List pmE := [(32, .iload_n 2, 2, 0, 0), (33, .iadd, 0, 0, 0), (34, .iconst 0, 0, 0, 0), (35, .bastore, 0, 0, 0), (36, .iinc 2 1, 2, 0, 1), (39, .goto (-37), 2, 0, 0), (42, .return_, 0, 0, 0)]
def pcX6_dropRoute : List (List pmE) := [pcX6_dropRoute_0, pcX6_dropRoute_1]
def pcX6_routeNet_0 : List pmE := [(0, .iconst 0, 0, 0, 0), (1, .istore_n 2, 2, 0, 0), (2, .iload_n 2, 2, 0, 0), (3, .aload_n 0, 0, 0, 0), (4, .invokevirtual 126, 80, 1, 0), (7, .if_icmp .ge 23, 30, 0, 0), (10, .aload_n 0, 0, 0, 0), (11, .getfield 56, 6, 25, 0), (14, .iload_n 2, 2, 0, 0), (15, .iconst 0, 0, 0, 0), (16, .bastore, 0, 0, 0), (17, .aload_n 0, 0, 0, 0), (18, .getfield 59, 6, 26, 0), (21, .iload_n 2, 2, 0, 0), (22, .iconst 0, 0, 0, 0), (23, .bastore, 0, 0, 0), (24, .iinc 2 1, 2, 0, 1), (27, .goto (-25), 2, 0, 0), (30, .iconst 0, 0, 0, 0), (31, .istore_n 2, 2, 0, 0)]
def pcX6_routeNet_1 : List pmE := [(32, .aload_n 0, 0, 0, 0), (33, .getfield 26, 6, 11, 0), (36, .iload_n 2, 2, 0, 0), (37, .iaload, 0, 0, 0), (38, .iload_n 1, 1, 0, 0), (39, .if_icmp .eq 9, 48, 0, 0), (42, .iinc 2 1, 2, 0, 1), (45, .goto (-13), 32, 0, 0), (48, .aload_n 0, 0, 0, 0), (49, .getfield 56, 6, 25, 0), (52, .aload_n 0, 0, 0, 0), (53, .iload_n 2, 2, 0, 0), (54, .invokevirtual 144, 95, 2, 0), (57, .iconst 1, 0, 0, 1), (58, .bastore, 0, 0, 0), (59, .aload_n 0, 0, 0, 0), (60, .iload_n 1, 1, 0, 0), (61, .invokevirtual 184, 106, 2, 0)]
def pcX6_routeNet_2 : List pmE := [(64, .ifCond .ne 80, 144, 0, 0), (67, .aload_n 0, 0, 0, 0), (68, .iload_n 1, 1, 0, 0), (69, .invokevirtual 187, 99, 2, 0), (72, .aload_n 0, 0, 0, 0), (73, .iconst 0, 0, 0, 0), (74, .invokevirtual 190, 104, 2, 0), (77, .aload_n 0, 0, 0, 0), (78, .iload_n 1, 1, 0, 0), (79, .invokevirtual 194, 105, 2, 0), (82, .istore_n 3, 3, 0, 0), (83, .iload_n 3, 3, 0, 0), (84, .iconst (-1), 0, 0, -1), (85, .if_icmp .eq 16, 101, 0, 0), (88, .aload_n 0, 0, 0, 0), (89, .dup, 0, 0, 0), (90, .getfield 197, 6, 23, 0), (93, .iconst 1, 0, 0, 1), (94, .iadd, 0, 0, 0), (95, .putfield 197, 6, 23, 0)]
def pcX6_routeNet_3 : List pmE := [(98, .goto 37, 135, 0, 0), (101, .aload_n 0, 0, 0, 0), (102, .iconst 1, 0, 0, 1), (103, .invokevirtual 190, 104, 2, 0), (106, .aload_n 0, 0, 0, 0), (107, .iload_n 1, 1, 0, 0), (108, .invokevirtual 194, 105, 2, 0), (111, .istore_n 3, 3, 0, 0), (112, .iload_n 3, 3, 0, 0), (113, .iconst (-1), 0, 0, -1), (114, .if_icmp .ne 11, 125, 0, 0), (117, .aload_n 0, 0, 0, 0), (118, .getfield 44, 6, 18, 0), (121, .iload_n 1, 1, 0, 0), (122, .iconst 2, 0, 0, 2), (123, .iastore, 0, 0, 0), (124, .return_, 0, 0, 0), (125, .aload_n 0, 0, 0, 0), (126, .dup, 0, 0, 0), (127, .getfield 200, 6, 24, 0)]
def pcX6_routeNet_4 : List pmE := [(130, .iconst 1, 0, 0, 1), (131, .iadd, 0, 0, 0), (132, .putfield 200, 6, 24, 0), (135, .aload_n 0, 0, 0, 0), (136, .iload_n 1, 1, 0, 0), (137, .iload_n 3, 3, 0, 0), (138, .invokevirtual 203, 109, 3, 0), (141, .goto (-82), 59, 0, 0), (144, .iconst 0, 0, 0, 0), (145, .istore_n 3, 3, 0, 0), (146, .iload_n 3, 3, 0, 0), (147, .aload_n 0, 0, 0, 0), (148, .invokevirtual 126, 80, 1, 0), (151, .if_icmp .ge 45, 196, 0, 0), (154, .aload_n 0, 0, 0, 0), (155, .getfield 50, 6, 20, 0), (158, .sipush 1728, 0, 0, 1728)]
def pcX6_routeNet_5 : List pmE := [(161, .iload_n 1, 1, 0, 0), (162, .imul, 0, 0, 0), (163, .iload_n 3, 3, 0, 0), (164, .iadd, 0, 0, 0), (165, .aload_n 0, 0, 0, 0), (166, .getfield 56, 6, 25, 0), (169, .iload_n 3, 3, 0, 0), (170, .baload, 0, 0, 0), (171, .bastore, 0, 0, 0), (172, .aload_n 0, 0, 0, 0), (173, .getfield 53, 6, 21, 0), (176, .sipush 1728, 0, 0, 1728), (179, .iload_n 1, 1, 0, 0), (180, .imul, 0, 0, 0), (181, .iload_n 3, 3, 0, 0), (182, .iadd, 0, 0, 0), (183, .aload_n 0, 0, 0, 0), (184, .getfield 59, 6, 26, 0), (187, .iload_n 3, 3, 0, 0), (188, .baload, 0, 0, 0), (189, .bastore, 0, 0, 0), (190, .iinc 3 1, 3, 0, 1)]
def pcX6_routeNet_6 : List pmE := [(193, .goto (-47), 146, 0, 0), (196, .aload_n 0, 0, 0, 0), (197, .getfield 41, 6, 17, 0), (200, .iload_n 1, 1, 0, 0), (201, .iconst 1, 0, 0, 1), (202, .bastore, 0, 0, 0), (203, .return_, 0, 0, 0)]
def pcX6_routeNet : List (List pmE) := [pcX6_routeNet_0, pcX6_routeNet_1, pcX6_routeNet_2, pcX6_routeNet_3, pcX6_routeNet_4, pcX6_routeNet_5, pcX6_routeNet_6]
def pcX6_run_0 : List pmE := [(0, .aload_n 0, 0, 0, 0), (1, .iload_n 1, 1, 0, 0), (2, .i2l, 0, 0, 0), (3, .lconst 0, 0, 0, 0), (4, .ldc2_w 206, 8, 0, 0), (7, .invokestatic 94, 78, 3, 0), (10, .ifCond .eq 7, 17, 0, 0), (13, .iconst 0, 0, 0, 0), (14, .goto 4, 18, 0, 0), (17, .iconst 1, 0, 0, 1), (18, .invokevirtual 102, 79, 2, 0), (21, .ifCond .eq 5, 26, 0, 0), (24, .iconst 0, 0, 0, 0), (25, .ireturn, 0, 0, 0), (26, .aload_n 0, 0, 0, 0), (27, .invokevirtual 208, 97, 1, 0), (30, .iconst 0, 0, 0, 0), (31, .istore_n 2, 2, 0, 0)]
def pcX6_run_1 : List pmE := [(32, .iload_n 2, 2, 0, 0), (33, .aload_n 0, 0, 0, 0), (34, .invokevirtual 126, 80, 1, 0), (37, .if_icmp .ge 16, 53, 0, 0), (40, .aload_n 0, 0, 0, 0), (41, .getfield 47, 6, 19, 0), (44, .iload_n 2, 2, 0, 0), (45, .iconst 0, 0, 0, 0), (46, .iastore, 0, 0, 0), (47, .iinc 2 1, 2, 0, 1), (50, .goto (-18), 32, 0, 0), (53, .iconst 0, 0, 0, 0), (54, .istore_n 2, 2, 0, 0), (55, .iload_n 2, 2, 0, 0), (56, .aload_n 0, 0, 0, 0), (57, .getfield 110, 6, 8, 0), (60, .if_icmp .ge 98, 158, 0, 0), (63, .iconst 0, 0, 0, 0)]
def pcX6_run_2 : List pmE := [(64, .istore_n 3, 3, 0, 0), (65, .iconst 0, 0, 0, 0), (66, .istore 4, 4, 0, 0), (68, .iload 4, 4, 0, 0), (70, .aload_n 0, 0, 0, 0), (71, .getfield 113, 6, 10, 0), (74, .if_icmp .ge 28, 102, 0, 0), (77, .iload_n 3, 3, 0, 0), (78, .aload_n 0, 0, 0, 0), (79, .getfield 26, 6, 11, 0), (82, .iload 4, 4, 0, 0), (84, .iaload, 0, 0, 0), (85, .iload_n 2, 2, 0, 0), (86, .if_icmp .ne 7, 93, 0, 0), (89, .iconst 1, 0, 0, 1), (90, .goto 4, 94, 0, 0), (93, .iconst 0, 0, 0, 0), (94, .iadd, 0, 0, 0), (95, .istore_n 3, 3, 0, 0)]
def pcX6_run_3 : List pmE := [(96, .iinc 4 1, 4, 0, 1), (99, .goto (-31), 68, 0, 0), (102, .aload_n 0, 0, 0, 0), (103, .iload_n 2, 2, 0, 0), (104, .invokevirtual 180, 110, 2, 0), (107, .aload_n 0, 0, 0, 0), (108, .getfield 41, 6, 17, 0), (111, .iload_n 2, 2, 0, 0), (112, .aload_n 0, 0, 0, 0), (113, .getfield 38, 6, 16, 0), (116, .iload_n 2, 2, 0, 0), (117, .baload, 0, 0, 0), (118, .ifCond .ne 12, 130, 0, 0), (121, .iload_n 3, 3, 0, 0), (122, .iconst 2, 0, 0, 2), (123, .if_icmp .ge 7, 130, 0, 0), (126, .iconst 1, 0, 0, 1), (127, .goto 4, 131, 0, 0)]
def pcX6_run_4 : List pmE := [(130, .iconst 0, 0, 0, 0), (131, .bastore, 0, 0, 0), (132, .aload_n 0, 0, 0, 0), (133, .getfield 44, 6, 18, 0), (136, .iload_n 2, 2, 0, 0), (137, .aload_n 0, 0, 0, 0), (138, .getfield 38, 6, 16, 0), (141, .iload_n 2, 2, 0, 0), (142, .baload, 0, 0, 0), (143, .ifCond .eq 7, 150, 0, 0), (146, .iconst 1, 0, 0, 1), (147, .goto 4, 151, 0, 0), (150, .iconst 3, 0, 0, 3), (151, .iastore, 0, 0, 0), (152, .iinc 2 1, 2, 0, 1), (155, .goto (-100), 55, 0, 0), (158, .aload_n 0, 0, 0, 0), (159, .iconst 0, 0, 0, 0)]
def pcX6_run_5 : List pmE := [(160, .putfield 211, 6, 22, 0), (163, .aload_n 0, 0, 0, 0), (164, .iconst 0, 0, 0, 0), (165, .putfield 197, 6, 23, 0), (168, .aload_n 0, 0, 0, 0), (169, .iconst 0, 0, 0, 0), (170, .putfield 200, 6, 24, 0), (173, .aload_n 0, 0, 0, 0), (174, .getfield 211, 6, 22, 0), (177, .iload_n 1, 1, 0, 0), (178, .if_icmp .ge 62, 240, 0, 0), (181, .aload_n 0, 0, 0, 0), (182, .invokevirtual 214, 113, 1, 0), (185, .ifCond .eq 55, 240, 0, 0), (188, .aload_n 0, 0, 0, 0), (189, .dup, 0, 0, 0), (190, .getfield 211, 6, 22, 0)]
def pcX6_run_6 : List pmE := [(193, .iconst 1, 0, 0, 1), (194, .iadd, 0, 0, 0), (195, .putfield 211, 6, 22, 0), (198, .iconst 0, 0, 0, 0), (199, .istore_n 2, 2, 0, 0), (200, .iload_n 2, 2, 0, 0), (201, .aload_n 0, 0, 0, 0), (202, .getfield 110, 6, 8, 0), (205, .if_icmp .ge 32, 237, 0, 0), (208, .aload_n 0, 0, 0, 0), (209, .getfield 38, 6, 16, 0), (212, .iload_n 2, 2, 0, 0), (213, .baload, 0, 0, 0), (214, .ifCond .ne 17, 231, 0, 0), (217, .aload_n 0, 0, 0, 0), (218, .getfield 41, 6, 17, 0), (221, .iload_n 2, 2, 0, 0), (222, .baload, 0, 0, 0), (223, .ifCond .ne 8, 231, 0, 0)]
def pcX6_run_7 : List pmE := [(226, .aload_n 0, 0, 0, 0), (227, .iload_n 2, 2, 0, 0), (228, .invokevirtual 218, 111, 2, 0), (231, .iinc 2 1, 2, 0, 1), (234, .goto (-34), 200, 0, 0), (237, .goto (-64), 173, 0, 0), (240, .aload_n 0, 0, 0, 0), (241, .iconst 1, 0, 0, 1), (242, .putfield 106, 6, 14, 0), (245, .iconst 0, 0, 0, 0), (246, .istore_n 2, 2, 0, 0), (247, .iconst 0, 0, 0, 0), (248, .istore_n 3, 3, 0, 0), (249, .iload_n 3, 3, 0, 0), (250, .aload_n 0, 0, 0, 0), (251, .getfield 110, 6, 8, 0), (254, .if_icmp .ge 26, 280, 0, 0)]
def pcX6_run_8 : List pmE := [(257, .iload_n 2, 2, 0, 0), (258, .aload_n 0, 0, 0, 0), (259, .getfield 41, 6, 17, 0), (262, .iload_n 3, 3, 0, 0), (263, .baload, 0, 0, 0), (264, .ifCond .eq 7, 271, 0, 0), (267, .iconst 0, 0, 0, 0), (268, .goto 4, 272, 0, 0), (271, .iconst 1, 0, 0, 1), (272, .iadd, 0, 0, 0), (273, .istore_n 2, 2, 0, 0), (274, .iinc 3 1, 3, 0, 1), (277, .goto (-28), 249, 0, 0), (280, .iload_n 2, 2, 0, 0), (281, .ireturn, 0, 0, 0)]
def pcX6_run : List (List pmE) := [pcX6_run_0, pcX6_run_1, pcX6_run_2, pcX6_run_3, pcX6_run_4, pcX6_run_5, pcX6_run_6, pcX6_run_7, pcX6_run_8]
def pcX6_isLeft_0 : List pmE := [(0, .iconst 0, 0, 0, 0), (1, .istore_n 1, 1, 0, 0), (2, .iconst 0, 0, 0, 0), (3, .istore_n 2, 2, 0, 0), (4, .iload_n 2, 2, 0, 0), (5, .aload_n 0, 0, 0, 0), (6, .getfield 110, 6, 8, 0), (9, .if_icmp .ge 37, 46, 0, 0), (12, .iload_n 1, 1, 0, 0), (13, .ifCond .ne 21, 34, 0, 0), (16, .aload_n 0, 0, 0, 0), (17, .getfield 38, 6, 16, 0), (20, .iload_n 2, 2, 0, 0), (21, .baload, 0, 0, 0), (22, .ifCond .ne 16, 38, 0, 0), (25, .aload_n 0, 0, 0, 0), (26, .getfield 41, 6, 17, 0), (29, .iload_n 2, 2, 0, 0), (30, .baload, 0, 0, 0), (31, .ifCond .ne 7, 38, 0, 0)]
def pcX6_isLeft_1 : List pmE := [(34, .iconst 1, 0, 0, 1), (35, .goto 4, 39, 0, 0), (38, .iconst 0, 0, 0, 0), (39, .istore_n 1, 1, 0, 0), (40, .iinc 2 1, 2, 0, 1), (43, .goto (-39), 4, 0, 0), (46, .iload_n 1, 1, 0, 0), (47, .ireturn, 0, 1, 0)]
def pcX6_isLeft : List (List pmE) := [pcX6_isLeft_0, pcX6_isLeft_1]
def pcX6_stands_0 : List pmE := [(0, .aload_n 0, 0, 0, 0), (1, .getfield 50, 6, 20, 0), (4, .sipush 1728, 0, 0, 1728), (7, .iload_n 1, 1, 0, 0), (8, .imul, 0, 0, 0), (9, .iload_n 2, 2, 0, 0), (10, .iadd, 0, 0, 0), (11, .baload, 0, 0, 0), (12, .istore_n 3, 3, 0, 0), (13, .iconst 0, 0, 0, 0), (14, .istore 4, 4, 0, 0), (16, .iload 4, 4, 0, 0), (18, .aload_n 0, 0, 0, 0), (19, .getfield 113, 6, 10, 0), (22, .if_icmp .ge 40, 62, 0, 0), (25, .iload_n 3, 3, 0, 0), (26, .ifCond .ne 24, 50, 0, 0), (29, .aload_n 0, 0, 0, 0), (30, .getfield 26, 6, 11, 0)]
def pcX6_stands_1 : List pmE := [(33, .iload 4, 4, 0, 0), (35, .iaload, 0, 0, 0), (36, .iload_n 1, 1, 0, 0), (37, .if_icmp .ne 17, 54, 0, 0), (40, .aload_n 0, 0, 0, 0), (41, .iload 4, 4, 0, 0), (43, .invokevirtual 144, 95, 2, 0), (46, .iload_n 2, 2, 0, 0), (47, .if_icmp .ne 7, 54, 0, 0), (50, .iconst 1, 0, 0, 1), (51, .goto 4, 55, 0, 0), (54, .iconst 0, 0, 0, 0), (55, .istore_n 3, 3, 0, 0), (56, .iinc 4 1, 4, 0, 1), (59, .goto (-43), 16, 0, 0), (62, .iload_n 3, 3, 0, 0), (63, .ireturn, 0, 1, 0)]
def pcX6_stands : List (List pmE) := [pcX6_stands_0, pcX6_stands_1]
def pcX6_piece_0 : List pmE := [(0, .aload_n 0, 0, 0, 0), (1, .aload_n 0, 0, 0, 0), (2, .iload_n 1, 1, 0, 0), (3, .invokevirtual 116, 87, 2, 0), (6, .ifCond .eq 15, 21, 0, 0), (9, .iload_n 3, 3, 0, 0), (10, .i2l, 0, 0, 0), (11, .lconst 0, 0, 0, 0), (12, .ldc2_w 221, 3, 0, 0), (15, .invokestatic 94, 78, 3, 0), (18, .ifCond .ne 7, 25, 0, 0), (21, .iconst 1, 0, 0, 1), (22, .goto 15, 37, 0, 0), (25, .aload_n 0, 0, 0, 0), (26, .getfield 106, 6, 14, 0), (29, .ifCond .ne 7, 36, 0, 0)]
def pcX6_piece_1 : List pmE := [(32, .iconst 2, 0, 0, 2), (33, .goto 4, 37, 0, 0), (36, .iconst 0, 0, 0, 0), (37, .invokevirtual 102, 79, 2, 0), (40, .ifCond .eq 5, 45, 0, 0), (43, .iconst 0, 0, 0, 0), (44, .ireturn, 0, 0, 0), (45, .iload_n 2, 2, 0, 0), (46, .istore 4, 4, 0, 0), (48, .iconst 0, 0, 0, 0), (49, .istore 5, 5, 0, 0), (51, .iload 5, 5, 0, 0), (53, .aload_n 0, 0, 0, 0), (54, .invokevirtual 126, 80, 1, 0), (57, .if_icmp .ge 95, 152, 0, 0), (60, .iload 4, 4, 0, 0), (62, .ifCond .lt 90, 152, 0, 0)]
def pcX6_piece_2 : List pmE := [(65, .aload_n 0, 0, 0, 0), (66, .iload_n 1, 1, 0, 0), (67, .iload 5, 5, 0, 0), (69, .invokevirtual 223, 114, 3, 0), (72, .ifCond .eq 74, 146, 0, 0), (75, .iload 4, 4, 0, 0), (77, .ifCond .ne 66, 143, 0, 0), (80, .iload_n 3, 3, 0, 0), (81, .ifCond .ne 12, 93, 0, 0), (84, .aload_n 0, 0, 0, 0), (85, .iload 5, 5, 0, 0), (87, .invokevirtual 130, 82, 2, 0), (90, .goto 52, 142, 0, 0), (93, .iload_n 3, 3, 0, 0), (94, .iconst 1, 0, 0, 1), (95, .if_icmp .ne 12, 107, 0, 0)]
def pcX6_piece_3 : List pmE := [(98, .aload_n 0, 0, 0, 0), (99, .iload 5, 5, 0, 0), (101, .invokevirtual 134, 83, 2, 0), (104, .goto 38, 142, 0, 0), (107, .iload_n 3, 3, 0, 0), (108, .iconst 2, 0, 0, 2), (109, .if_icmp .ne 12, 121, 0, 0), (112, .aload_n 0, 0, 0, 0), (113, .iload 5, 5, 0, 0), (115, .invokevirtual 137, 84, 2, 0), (118, .goto 24, 142, 0, 0), (121, .aload_n 0, 0, 0, 0), (122, .getfield 53, 6, 21, 0), (125, .sipush 1728, 0, 0, 1728)]
def pcX6_piece_4 : List pmE := [(128, .iload_n 1, 1, 0, 0), (129, .imul, 0, 0, 0), (130, .iload 5, 5, 0, 0), (132, .iadd, 0, 0, 0), (133, .baload, 0, 0, 0), (134, .ifCond .eq 7, 141, 0, 0), (137, .iconst 1, 0, 0, 1), (138, .goto 4, 142, 0, 0), (141, .iconst 0, 0, 0, 0), (142, .ireturn, 0, 0, 0), (143, .iinc 4 (-1), 4, 0, -1), (146, .iinc 5 1, 5, 0, 1), (149, .goto (-98), 51, 0, 0), (152, .aload_n 0, 0, 0, 0), (153, .iconst 1, 0, 0, 1), (154, .putfield 91, 6, 0, 0), (157, .iconst 0, 0, 0, 0), (158, .ireturn, 0, 0, 0)]
def pcX6_piece : List (List pmE) := [pcX6_piece_0, pcX6_piece_1, pcX6_piece_2, pcX6_piece_3, pcX6_piece_4]
def pcX6_chosen_0 : List pmE := [(0, .aload_n 0, 0, 0, 0), (1, .aload_n 0, 0, 0, 0), (2, .iload_n 1, 1, 0, 0), (3, .invokevirtual 123, 88, 2, 0), (6, .ifCond .ne 7, 13, 0, 0), (9, .iconst 1, 0, 0, 1), (10, .goto 15, 25, 0, 0), (13, .aload_n 0, 0, 0, 0), (14, .getfield 106, 6, 14, 0), (17, .ifCond .ne 7, 24, 0, 0), (20, .iconst 2, 0, 0, 2), (21, .goto 4, 25, 0, 0), (24, .iconst 0, 0, 0, 0), (25, .invokevirtual 102, 79, 2, 0), (28, .ifCond .eq 7, 35, 0, 0), (31, .iconst 0, 0, 0, 0)]
def pcX6_chosen_1 : List pmE := [(32, .goto 9, 41, 0, 0), (35, .aload_n 0, 0, 0, 0), (36, .getfield 35, 6, 15, 0), (39, .iload_n 1, 1, 0, 0), (40, .iaload, 0, 0, 0), (41, .ireturn, 0, 0, 0)]
def pcX6_chosen : List (List pmE) := [pcX6_chosen_0, pcX6_chosen_1]
def pcX6_open_0 : List pmE := [(0, .aload_n 0, 0, 0, 0), (1, .iload_n 2, 2, 0, 0), (2, .i2l, 0, 0, 0), (3, .lconst 0, 0, 0, 0), (4, .lconst 1, 1, 0, 0), (5, .invokestatic 94, 78, 3, 0), (8, .ifCond .eq 7, 15, 0, 0), (11, .iload_n 1, 1, 0, 0), (12, .ifCond .ge 7, 19, 0, 0), (15, .iconst 1, 0, 0, 1), (16, .goto 15, 31, 0, 0), (19, .aload_n 0, 0, 0, 0), (20, .getfield 106, 6, 14, 0), (23, .ifCond .ne 7, 30, 0, 0), (26, .iconst 2, 0, 0, 2), (27, .goto 4, 31, 0, 0), (30, .iconst 0, 0, 0, 0), (31, .invokevirtual 102, 79, 2, 0)]
def pcX6_open_1 : List pmE := [(34, .ifCond .eq 5, 39, 0, 0), (37, .iconst 0, 0, 0, 0), (38, .ireturn, 0, 0, 0), (39, .iload_n 1, 1, 0, 0), (40, .istore_n 3, 3, 0, 0), (41, .iconst 0, 0, 0, 0), (42, .istore 4, 4, 0, 0), (44, .iload 4, 4, 0, 0), (46, .aload_n 0, 0, 0, 0), (47, .getfield 110, 6, 8, 0), (50, .if_icmp .ge 43, 93, 0, 0), (53, .aload_n 0, 0, 0, 0), (54, .getfield 41, 6, 17, 0), (57, .iload 4, 4, 0, 0), (59, .baload, 0, 0, 0), (60, .ifCond .ne 27, 87, 0, 0), (63, .iload_n 3, 3, 0, 0)]
def pcX6_open_2 : List pmE := [(64, .ifCond .ne 20, 84, 0, 0), (67, .iload_n 2, 2, 0, 0), (68, .ifCond .ne 8, 76, 0, 0), (71, .iload 4, 4, 0, 0), (73, .goto 10, 83, 0, 0), (76, .aload_n 0, 0, 0, 0), (77, .getfield 44, 6, 18, 0), (80, .iload 4, 4, 0, 0), (82, .iaload, 0, 0, 0), (83, .ireturn, 0, 0, 0), (84, .iinc 3 (-1), 3, 0, -1), (87, .iinc 4 1, 4, 0, 1), (90, .goto (-46), 44, 0, 0), (93, .iconst (-1), 0, 0, -1), (94, .ireturn, 0, 0, 0)]
def pcX6_open : List (List pmE) := [pcX6_open_0, pcX6_open_1, pcX6_open_2]
def pcX6_joined_0 : List pmE := [(0, .aload_n 0, 0, 0, 0), (1, .aload_n 0, 0, 0, 0), (2, .iload_n 1, 1, 0, 0), (3, .invokevirtual 116, 87, 2, 0), (6, .ifCond .ne 7, 13, 0, 0), (9, .iconst 1, 0, 0, 1), (10, .goto 15, 25, 0, 0), (13, .aload_n 0, 0, 0, 0), (14, .getfield 106, 6, 14, 0), (17, .ifCond .ne 7, 24, 0, 0), (20, .iconst 2, 0, 0, 2), (21, .goto 4, 25, 0, 0), (24, .iconst 0, 0, 0, 0), (25, .invokevirtual 102, 79, 2, 0), (28, .ifCond .ne 16, 44, 0, 0), (31, .aload_n 0, 0, 0, 0)]
def pcX6_joined_1 : List pmE := [(32, .getfield 41, 6, 17, 0), (35, .iload_n 1, 1, 0, 0), (36, .baload, 0, 0, 0), (37, .ifCond .eq 7, 44, 0, 0), (40, .iconst 1, 0, 0, 1), (41, .goto 4, 45, 0, 0), (44, .iconst 0, 0, 0, 0), (45, .ireturn, 0, 1, 0)]
def pcX6_joined : List (List pmE) := [pcX6_joined_0, pcX6_joined_1]
def pcX6_findStanding_0 : List pmE := [(0, .iconst 0, 0, 0, 0), (1, .istore_n 1, 1, 0, 0), (2, .iload_n 1, 1, 0, 0), (3, .sipush 1728, 0, 0, 1728), (6, .aload_n 0, 0, 0, 0), (7, .getfield 110, 6, 8, 0), (10, .imul, 0, 0, 0), (11, .if_icmp .ge 21, 32, 0, 0), (14, .aload_n 0, 0, 0, 0), (15, .getfield 74, 6, 31, 0), (18, .iload_n 1, 1, 0, 0), (19, .aload_n 0, 0, 0, 0), (20, .getfield 50, 6, 20, 0), (23, .iload_n 1, 1, 0, 0), (24, .baload, 0, 0, 0), (25, .bastore, 0, 0, 0), (26, .iinc 1 1, 1, 0, 1), (29, .goto (-27), 2, 0, 0)]
def pcX6_findStanding_1 : List pmE := [(32, .iconst 0, 0, 0, 0), (33, .istore_n 1, 1, 0, 0), (34, .iload_n 1, 1, 0, 0), (35, .aload_n 0, 0, 0, 0), (36, .getfield 113, 6, 10, 0), (39, .if_icmp .ge 41, 80, 0, 0), (42, .aload_n 0, 0, 0, 0), (43, .getfield 35, 6, 15, 0), (46, .iload_n 1, 1, 0, 0), (47, .iaload, 0, 0, 0), (48, .iconst (-1), 0, 0, -1), (49, .if_icmp .eq 25, 74, 0, 0), (52, .aload_n 0, 0, 0, 0), (53, .getfield 74, 6, 31, 0), (56, .sipush 1728, 0, 0, 1728), (59, .aload_n 0, 0, 0, 0), (60, .getfield 26, 6, 11, 0), (63, .iload_n 1, 1, 0, 0)]
def pcX6_findStanding_2 : List pmE := [(64, .iaload, 0, 0, 0), (65, .imul, 0, 0, 0), (66, .aload_n 0, 0, 0, 0), (67, .iload_n 1, 1, 0, 0), (68, .invokevirtual 144, 95, 2, 0), (71, .iadd, 0, 0, 0), (72, .iconst 1, 0, 0, 1), (73, .bastore, 0, 0, 0), (74, .iinc 1 1, 1, 0, 1), (77, .goto (-43), 34, 0, 0), (80, .return_, 0, 0, 0)]
def pcX6_findStanding : List (List pmE) := [pcX6_findStanding_0, pcX6_findStanding_1, pcX6_findStanding_2]
def pcX6_isBroken_0 : List pmE := [(0, .iconst 0, 0, 0, 0), (1, .istore_n 2, 2, 0, 0), (2, .iload_n 2, 2, 0, 0), (3, .aload_n 0, 0, 0, 0), (4, .getfield 110, 6, 8, 0), (7, .if_icmp .ge 138, 145, 0, 0), (10, .bipush (-3), 0, 0, -3), (12, .istore_n 3, 3, 0, 0), (13, .iload_n 3, 3, 0, 0), (14, .iconst 4, 0, 0, 4), (15, .if_icmp .ge 124, 139, 0, 0), (18, .aload_n 0, 0, 0, 0), (19, .getfield 74, 6, 31, 0), (22, .sipush 1728, 0, 0, 1728), (25, .iload_n 2, 2, 0, 0), (26, .imul, 0, 0, 0), (27, .iload_n 1, 1, 0, 0), (28, .iadd, 0, 0, 0), (29, .baload, 0, 0, 0), (30, .ifCond .eq 109, 139, 0, 0)]
def pcX6_isBroken_1 : List pmE := [(33, .bipush (-3), 0, 0, -3), (35, .istore 4, 4, 0, 0), (37, .iload 4, 4, 0, 0), (39, .iconst 4, 0, 0, 4), (40, .if_icmp .ge 93, 133, 0, 0), (43, .aload_n 0, 0, 0, 0), (44, .aload_n 0, 0, 0, 0), (45, .iload_n 1, 1, 0, 0), (46, .invokevirtual 130, 82, 2, 0), (49, .aload_n 0, 0, 0, 0), (50, .iload_n 1, 1, 0, 0), (51, .invokevirtual 134, 83, 2, 0), (54, .iload 4, 4, 0, 0), (56, .iadd, 0, 0, 0), (57, .i2l, 0, 0, 0), (58, .aload_n 0, 0, 0, 0), (59, .iload_n 1, 1, 0, 0), (60, .invokevirtual 137, 84, 2, 0), (63, .iload_n 3, 3, 0, 0)]
def pcX6_isBroken_2 : List pmE := [(64, .iadd, 0, 0, 0), (65, .i2l, 0, 0, 0), (66, .invokevirtual 119, 81, 4, 0), (69, .istore 5, 5, 0, 0), (71, .iconst 0, 0, 0, 0), (72, .istore 6, 6, 0, 0), (74, .iload 6, 6, 0, 0), (76, .aload_n 0, 0, 0, 0), (77, .getfield 110, 6, 8, 0), (80, .if_icmp .ge 47, 127, 0, 0), (83, .iload 5, 5, 0, 0), (85, .iconst (-1), 0, 0, -1), (86, .if_icmp .eq 41, 127, 0, 0), (89, .aload_n 0, 0, 0, 0), (90, .getfield 74, 6, 31, 0), (93, .sipush 1728, 0, 0, 1728)]
def pcX6_isBroken_3 : List pmE := [(96, .iload 6, 6, 0, 0), (98, .imul, 0, 0, 0), (99, .iload 5, 5, 0, 0), (101, .iadd, 0, 0, 0), (102, .baload, 0, 0, 0), (103, .ifCond .eq 18, 121, 0, 0), (106, .aload_n 0, 0, 0, 0), (107, .iload_n 2, 2, 0, 0), (108, .iload_n 1, 1, 0, 0), (109, .iload 6, 6, 0, 0), (111, .iload 5, 5, 0, 0), (113, .invokevirtual 147, 94, 5, 0), (116, .ifCond .eq 5, 121, 0, 0), (119, .iconst 1, 0, 0, 1), (120, .ireturn, 0, 1, 0), (121, .iinc 6 1, 6, 0, 1), (124, .goto (-50), 74, 0, 0), (127, .iinc 4 1, 4, 0, 1)]
def pcX6_isBroken_4 : List pmE := [(130, .goto (-93), 37, 0, 0), (133, .iinc 3 1, 3, 0, 1), (136, .goto (-123), 13, 0, 0), (139, .iinc 2 1, 2, 0, 1), (142, .goto (-140), 2, 0, 0), (145, .iconst 0, 0, 0, 0), (146, .ireturn, 0, 1, 0)]
def pcX6_isBroken : List (List pmE) := [pcX6_isBroken_0, pcX6_isBroken_1, pcX6_isBroken_2, pcX6_isBroken_3, pcX6_isBroken_4]
def pcX6_broken_0 : List pmE := [(0, .aload_n 0, 0, 0, 0), (1, .iload_n 1, 1, 0, 0), (2, .ifCond .ge 7, 9, 0, 0), (5, .iconst 1, 0, 0, 1), (6, .goto 15, 21, 0, 0), (9, .aload_n 0, 0, 0, 0), (10, .getfield 106, 6, 14, 0), (13, .ifCond .ne 7, 20, 0, 0), (16, .iconst 2, 0, 0, 2), (17, .goto 4, 21, 0, 0), (20, .iconst 0, 0, 0, 0), (21, .invokevirtual 102, 79, 2, 0), (24, .ifCond .eq 5, 29, 0, 0), (27, .iconst 0, 0, 0, 0), (28, .ireturn, 0, 0, 0), (29, .aload_n 0, 0, 0, 0), (30, .invokevirtual 226, 119, 1, 0)]
def pcX6_broken_1 : List pmE := [(33, .iload_n 1, 1, 0, 0), (34, .istore_n 2, 2, 0, 0), (35, .iconst 0, 0, 0, 0), (36, .istore_n 3, 3, 0, 0), (37, .iload_n 3, 3, 0, 0), (38, .aload_n 0, 0, 0, 0), (39, .invokevirtual 126, 80, 1, 0), (42, .if_icmp .ge 26, 68, 0, 0), (45, .aload_n 0, 0, 0, 0), (46, .iload_n 3, 3, 0, 0), (47, .invokevirtual 229, 120, 2, 0), (50, .ifCond .eq 12, 62, 0, 0), (53, .iload_n 2, 2, 0, 0), (54, .ifCond .ne 5, 59, 0, 0), (57, .iload_n 3, 3, 0, 0), (58, .ireturn, 0, 0, 0), (59, .iinc 2 (-1), 2, 0, -1), (62, .iinc 3 1, 3, 0, 1)]
def pcX6_broken_2 : List pmE := [(65, .goto (-28), 37, 0, 0), (68, .iconst (-1), 0, 0, -1), (69, .ireturn, 0, 0, 0)]
def pcX6_broken : List (List pmE) := [pcX6_broken_0, pcX6_broken_1, pcX6_broken_2]
def pcX6_history_0 : List pmE := [(0, .aload_n 0, 0, 0, 0), (1, .iload_n 1, 1, 0, 0), (2, .lload_n 2, 2, 0, 0), (3, .lload 4, 4, 0, 0), (5, .invokevirtual 119, 81, 4, 0), (8, .istore 6, 6, 0, 0), (10, .aload_n 0, 0, 0, 0), (11, .iload 6, 6, 0, 0), (13, .iconst (-1), 0, 0, -1), (14, .if_icmp .ne 7, 21, 0, 0), (17, .iconst 1, 0, 0, 1), (18, .goto 15, 33, 0, 0), (21, .aload_n 0, 0, 0, 0), (22, .getfield 106, 6, 14, 0), (25, .ifCond .ne 7, 32, 0, 0), (28, .iconst 2, 0, 0, 2), (29, .goto 4, 33, 0, 0)]
def pcX6_history_1 : List pmE := [(32, .iconst 0, 0, 0, 0), (33, .invokevirtual 102, 79, 2, 0), (36, .ifCond .eq 7, 43, 0, 0), (39, .iconst 0, 0, 0, 0), (40, .goto 10, 50, 0, 0), (43, .aload_n 0, 0, 0, 0), (44, .getfield 47, 6, 19, 0), (47, .iload 6, 6, 0, 0), (49, .iaload, 0, 0, 0), (50, .ireturn, 0, 0, 0)]
def pcX6_history : List (List pmE) := [pcX6_history_0, pcX6_history_1]
def pcX6_count_0 : List pmE := [(0, .aload_n 0, 0, 0, 0), (1, .iload_n 1, 1, 0, 0), (2, .i2l, 0, 0, 0), (3, .lconst 0, 0, 0, 0), (4, .ldc2_w 232, 5, 0, 0), (7, .invokestatic 94, 78, 3, 0), (10, .ifCond .eq 7, 17, 0, 0), (13, .iconst 0, 0, 0, 0), (14, .goto 4, 18, 0, 0), (17, .iconst 1, 0, 0, 1), (18, .invokevirtual 102, 79, 2, 0), (21, .ifCond .eq 5, 26, 0, 0), (24, .iconst 0, 0, 0, 0), (25, .ireturn, 0, 0, 0), (26, .iload_n 1, 1, 0, 0), (27, .iconst 2, 0, 0, 2), (28, .if_icmp .ge 19, 47, 0, 0), (31, .iload_n 1, 1, 0, 0)]
def pcX6_count_1 : List pmE := [(32, .ifCond .ne 10, 42, 0, 0), (35, .aload_n 0, 0, 0, 0), (36, .getfield 110, 6, 8, 0), (39, .goto 7, 46, 0, 0), (42, .aload_n 0, 0, 0, 0), (43, .getfield 113, 6, 10, 0), (46, .ireturn, 0, 0, 0), (47, .iload_n 1, 1, 0, 0), (48, .iconst 2, 0, 0, 2), (49, .if_icmp .ne 40, 89, 0, 0), (52, .iconst 0, 0, 0, 0), (53, .istore_n 2, 2, 0, 0), (54, .iconst 0, 0, 0, 0), (55, .istore_n 3, 3, 0, 0), (56, .iload_n 3, 3, 0, 0), (57, .aload_n 0, 0, 0, 0), (58, .invokevirtual 126, 80, 1, 0), (61, .if_icmp .ge 26, 87, 0, 0)]
def pcX6_count_2 : List pmE := [(64, .iload_n 2, 2, 0, 0), (65, .aload_n 0, 0, 0, 0), (66, .getfield 19, 6, 7, 0), (69, .iload_n 3, 3, 0, 0), (70, .baload, 0, 0, 0), (71, .ifCond .eq 7, 78, 0, 0), (74, .iconst 1, 0, 0, 1), (75, .goto 4, 79, 0, 0), (78, .iconst 0, 0, 0, 0), (79, .iadd, 0, 0, 0), (80, .istore_n 2, 2, 0, 0), (81, .iinc 3 1, 3, 0, 1), (84, .goto (-28), 56, 0, 0), (87, .iload_n 2, 2, 0, 0), (88, .ireturn, 0, 0, 0), (89, .aload_n 0, 0, 0, 0), (90, .getfield 106, 6, 14, 0), (93, .ifCond .ne 7, 100, 0, 0)]
def pcX6_count_3 : List pmE := [(96, .iconst 0, 0, 0, 0), (97, .goto 31, 128, 0, 0), (100, .iload_n 1, 1, 0, 0), (101, .iconst 3, 0, 0, 3), (102, .if_icmp .ne 10, 112, 0, 0), (105, .aload_n 0, 0, 0, 0), (106, .getfield 211, 6, 22, 0), (109, .goto 19, 128, 0, 0), (112, .iload_n 1, 1, 0, 0), (113, .iconst 4, 0, 0, 4), (114, .if_icmp .ne 10, 124, 0, 0), (117, .aload_n 0, 0, 0, 0), (118, .getfield 197, 6, 23, 0), (121, .goto 7, 128, 0, 0), (124, .aload_n 0, 0, 0, 0), (125, .getfield 200, 6, 24, 0)]
def pcX6_count_4 : List pmE := [(128, .ireturn, 0, 0, 0)]
def pcX6_count : List (List pmE) := [pcX6_count_0, pcX6_count_1, pcX6_count_2, pcX6_count_3, pcX6_count_4]
def pcL_cell_0 : List pmE := [(0, .iload_n 1, 1, 0, 0), (1, .aload_n 0, 0, 0, 0), (2, .arraylength, 0, 0, 0), (3, .if_icmp .ge 9, 12, 0, 0), (6, .aload_n 0, 0, 0, 0), (7, .iload_n 1, 1, 0, 0), (8, .iaload, 0, 0, 0), (9, .goto 4, 13, 0, 0), (12, .iconst 0, 0, 0, 0), (13, .ireturn, 0, 0, 0)]
def pcL_cell : List (List pmE) := [pcL_cell_0]
def pcL_rule_0 : List pmE := [(0, .aload 5, 5, 0, 0), (2, .iconst 0, 0, 0, 0), (3, .aload_n 0, 0, 0, 0), (4, .iload_n 1, 1, 0, 0), (5, .iload_n 2, 2, 0, 0), (6, .lload_n 3, 3, 0, 0), (7, .invokevirtual 7, 52, 4, 0), (10, .ifCond .eq 7, 17, 0, 0), (13, .lconst 1, 1, 0, 0), (14, .goto 4, 18, 0, 0), (17, .lconst 0, 0, 0, 0), (18, .lastore, 0, 0, 0), (19, .goto 11, 30, 0, 0), (22, .astore 6, 6, 0, 0), (24, .iconst 1, 0, 0, 1), (25, .ireturn, 0, 0, 0), (26, .astore 6, 6, 0, 0), (28, .iconst 2, 0, 0, 2), (29, .ireturn, 0, 0, 0), (30, .iconst 0, 0, 0, 0), (31, .ireturn, 0, 0, 0)]
def pcL_rule : List (List pmE) := [pcL_rule_0]
def pcL_net_0 : List pmE := [(0, .aload_n 1, 1, 0, 0), (1, .iconst 0, 0, 0, 0), (2, .aload_n 0, 0, 0, 0), (3, .invokevirtual 17, 53, 1, 0), (6, .i2l, 0, 0, 0), (7, .lastore, 0, 0, 0), (8, .goto 6, 14, 0, 0), (11, .astore_n 2, 2, 0, 0), (12, .iconst 1, 0, 0, 1), (13, .ireturn, 0, 0, 0), (14, .iconst 0, 0, 0, 0), (15, .ireturn, 0, 0, 0)]
def pcL_net : List (List pmE) := [pcL_net_0]
def pcL_pin_0 : List pmE := [(0, .aload_n 2, 2, 0, 0), (1, .iconst 0, 0, 0, 0), (2, .aload_n 0, 0, 0, 0), (3, .iload_n 1, 1, 0, 0), (4, .invokevirtual 23, 54, 2, 0), (7, .i2l, 0, 0, 0), (8, .lastore, 0, 0, 0), (9, .goto 9, 18, 0, 0), (12, .astore_n 3, 3, 0, 0), (13, .iconst 1, 0, 0, 1), (14, .ireturn, 0, 0, 0), (15, .astore_n 3, 3, 0, 0), (16, .iconst 2, 0, 0, 2), (17, .ireturn, 0, 0, 0), (18, .iconst 0, 0, 0, 0), (19, .ireturn, 0, 0, 0)]
def pcL_pin : List (List pmE) := [pcL_pin_0]
def pcL_access_0 : List pmE := [(0, .aload 7, 7, 0, 0), (2, .iconst 0, 0, 0, 0), (3, .aload_n 0, 0, 0, 0), (4, .iload_n 1, 1, 0, 0), (5, .iload_n 2, 2, 0, 0), (6, .lload_n 3, 3, 0, 0), (7, .lload 5, 5, 0, 0), (9, .invokevirtual 27, 55, 5, 0), (12, .ifCond .eq 7, 19, 0, 0), (15, .lconst 1, 1, 0, 0), (16, .goto 4, 20, 0, 0), (19, .lconst 0, 0, 0, 0), (20, .lastore, 0, 0, 0), (21, .goto 11, 32, 0, 0), (24, .astore 8, 8, 0, 0), (26, .iconst 1, 0, 0, 1), (27, .ireturn, 0, 0, 0), (28, .astore 8, 8, 0, 0), (30, .iconst 2, 0, 0, 2), (31, .ireturn, 0, 0, 0)]
def pcL_access_1 : List pmE := [(32, .iconst 0, 0, 0, 0), (33, .ireturn, 0, 0, 0)]
def pcL_access : List (List pmE) := [pcL_access_0, pcL_access_1]
def pcL_bar_0 : List pmE := [(0, .aload 10, 10, 0, 0), (2, .iconst 0, 0, 0, 0), (3, .aload_n 0, 0, 0, 0), (4, .iload_n 1, 1, 0, 0), (5, .lload_n 2, 2, 0, 0), (6, .lload 4, 4, 0, 0), (8, .lload 6, 6, 0, 0), (10, .lload 8, 8, 0, 0), (12, .invokevirtual 31, 56, 6, 0), (15, .ifCond .eq 7, 22, 0, 0), (18, .lconst 1, 1, 0, 0), (19, .goto 4, 23, 0, 0), (22, .lconst 0, 0, 0, 0), (23, .lastore, 0, 0, 0), (24, .goto 11, 35, 0, 0), (27, .astore 11, 11, 0, 0), (29, .iconst 1, 0, 0, 1), (30, .ireturn, 0, 0, 0), (31, .astore 11, 11, 0, 0)]
def pcL_bar_1 : List pmE := [(33, .iconst 2, 0, 0, 2), (34, .ireturn, 0, 0, 0), (35, .iconst 0, 0, 0, 0), (36, .ireturn, 0, 0, 0)]
def pcL_bar : List (List pmE) := [pcL_bar_0, pcL_bar_1]
def pcL_shield_0 : List pmE := [(0, .aload_n 2, 2, 0, 0), (1, .iconst 0, 0, 0, 0), (2, .aload_n 0, 0, 0, 0), (3, .iload_n 1, 1, 0, 0), (4, .invokevirtual 35, 57, 2, 0), (7, .ifCond .eq 7, 14, 0, 0), (10, .lconst 1, 1, 0, 0), (11, .goto 4, 15, 0, 0), (14, .lconst 0, 0, 0, 0), (15, .lastore, 0, 0, 0), (16, .goto 6, 22, 0, 0), (19, .astore_n 3, 3, 0, 0), (20, .iconst 1, 0, 0, 1), (21, .ireturn, 0, 0, 0), (22, .iconst 0, 0, 0, 0), (23, .ireturn, 0, 0, 0)]
def pcL_shield : List (List pmE) := [pcL_shield_0]
def pcL_run_0 : List pmE := [(0, .aload_n 2, 2, 0, 0), (1, .iconst 0, 0, 0, 0), (2, .aload_n 0, 0, 0, 0), (3, .iload_n 1, 1, 0, 0), (4, .invokevirtual 39, 58, 2, 0), (7, .i2l, 0, 0, 0), (8, .lastore, 0, 0, 0), (9, .goto 6, 15, 0, 0), (12, .astore_n 3, 3, 0, 0), (13, .iconst 1, 0, 0, 1), (14, .ireturn, 0, 0, 0), (15, .iconst 0, 0, 0, 0), (16, .ireturn, 0, 0, 0)]
def pcL_run : List (List pmE) := [pcL_run_0]
def pcL_piece_0 : List pmE := [(0, .aload 4, 4, 0, 0), (2, .iconst 0, 0, 0, 0), (3, .aload_n 0, 0, 0, 0), (4, .iload_n 1, 1, 0, 0), (5, .iload_n 2, 2, 0, 0), (6, .iload_n 3, 3, 0, 0), (7, .invokevirtual 42, 59, 4, 0), (10, .i2l, 0, 0, 0), (11, .lastore, 0, 0, 0), (12, .goto 11, 23, 0, 0), (15, .astore 5, 5, 0, 0), (17, .iconst 1, 0, 0, 1), (18, .ireturn, 0, 0, 0), (19, .astore 5, 5, 0, 0), (21, .iconst 2, 0, 0, 2), (22, .ireturn, 0, 0, 0), (23, .iconst 0, 0, 0, 0), (24, .ireturn, 0, 0, 0)]
def pcL_piece : List (List pmE) := [pcL_piece_0]
def pcL_chosen_0 : List pmE := [(0, .aload_n 2, 2, 0, 0), (1, .iconst 0, 0, 0, 0), (2, .aload_n 0, 0, 0, 0), (3, .iload_n 1, 1, 0, 0), (4, .invokevirtual 46, 60, 2, 0), (7, .i2l, 0, 0, 0), (8, .lastore, 0, 0, 0), (9, .goto 9, 18, 0, 0), (12, .astore_n 3, 3, 0, 0), (13, .iconst 1, 0, 0, 1), (14, .ireturn, 0, 0, 0), (15, .astore_n 3, 3, 0, 0), (16, .iconst 2, 0, 0, 2), (17, .ireturn, 0, 0, 0), (18, .iconst 0, 0, 0, 0), (19, .ireturn, 0, 0, 0)]
def pcL_chosen : List (List pmE) := [pcL_chosen_0]
def pcL_open_0 : List pmE := [(0, .aload_n 3, 3, 0, 0), (1, .iconst 0, 0, 0, 0), (2, .aload_n 0, 0, 0, 0), (3, .iload_n 1, 1, 0, 0), (4, .iload_n 2, 2, 0, 0), (5, .invokevirtual 49, 61, 3, 0), (8, .i2l, 0, 0, 0), (9, .lastore, 0, 0, 0), (10, .goto 11, 21, 0, 0), (13, .astore 4, 4, 0, 0), (15, .iconst 1, 0, 0, 1), (16, .ireturn, 0, 0, 0), (17, .astore 4, 4, 0, 0), (19, .iconst 2, 0, 0, 2), (20, .ireturn, 0, 0, 0), (21, .iconst 0, 0, 0, 0), (22, .ireturn, 0, 0, 0)]
def pcL_open : List (List pmE) := [pcL_open_0]
def pcL_joined_0 : List pmE := [(0, .aload_n 2, 2, 0, 0), (1, .iconst 0, 0, 0, 0), (2, .aload_n 0, 0, 0, 0), (3, .iload_n 1, 1, 0, 0), (4, .invokevirtual 53, 62, 2, 0), (7, .ifCond .eq 7, 14, 0, 0), (10, .lconst 1, 1, 0, 0), (11, .goto 4, 15, 0, 0), (14, .lconst 0, 0, 0, 0), (15, .lastore, 0, 0, 0), (16, .goto 9, 25, 0, 0), (19, .astore_n 3, 3, 0, 0), (20, .iconst 1, 0, 0, 1), (21, .ireturn, 0, 0, 0), (22, .astore_n 3, 3, 0, 0), (23, .iconst 2, 0, 0, 2), (24, .ireturn, 0, 0, 0), (25, .iconst 0, 0, 0, 0), (26, .ireturn, 0, 0, 0)]
def pcL_joined : List (List pmE) := [pcL_joined_0]
def pcL_broken_0 : List pmE := [(0, .aload_n 2, 2, 0, 0), (1, .iconst 0, 0, 0, 0), (2, .aload_n 0, 0, 0, 0), (3, .iload_n 1, 1, 0, 0), (4, .invokevirtual 56, 63, 2, 0), (7, .i2l, 0, 0, 0), (8, .lastore, 0, 0, 0), (9, .goto 9, 18, 0, 0), (12, .astore_n 3, 3, 0, 0), (13, .iconst 1, 0, 0, 1), (14, .ireturn, 0, 0, 0), (15, .astore_n 3, 3, 0, 0), (16, .iconst 2, 0, 0, 2), (17, .ireturn, 0, 0, 0), (18, .iconst 0, 0, 0, 0), (19, .ireturn, 0, 0, 0)]
def pcL_broken : List (List pmE) := [pcL_broken_0]
def pcL_history_0 : List pmE := [(0, .aload 6, 6, 0, 0), (2, .iconst 0, 0, 0, 0), (3, .aload_n 0, 0, 0, 0), (4, .iload_n 1, 1, 0, 0), (5, .lload_n 2, 2, 0, 0), (6, .lload 4, 4, 0, 0), (8, .invokevirtual 59, 64, 4, 0), (11, .i2l, 0, 0, 0), (12, .lastore, 0, 0, 0), (13, .goto 11, 24, 0, 0), (16, .astore 7, 7, 0, 0), (18, .iconst 1, 0, 0, 1), (19, .ireturn, 0, 0, 0), (20, .astore 7, 7, 0, 0), (22, .iconst 2, 0, 0, 2), (23, .ireturn, 0, 0, 0), (24, .iconst 0, 0, 0, 0), (25, .ireturn, 0, 0, 0)]
def pcL_history : List (List pmE) := [pcL_history_0]
def pcL_count_0 : List pmE := [(0, .aload_n 2, 2, 0, 0), (1, .iconst 0, 0, 0, 0), (2, .aload_n 0, 0, 0, 0), (3, .iload_n 1, 1, 0, 0), (4, .invokevirtual 63, 65, 2, 0), (7, .i2l, 0, 0, 0), (8, .lastore, 0, 0, 0), (9, .goto 6, 15, 0, 0), (12, .astore_n 3, 3, 0, 0), (13, .iconst 1, 0, 0, 1), (14, .ireturn, 0, 0, 0), (15, .iconst 0, 0, 0, 0), (16, .ireturn, 0, 0, 0)]
def pcL_count : List (List pmE) := [pcL_count_0]
def pcL_law_0 : List pmE := [(0, .new 8, 5, 0, 0), (3, .dup, 0, 0, 0), (4, .aload_n 0, 0, 0, 0), (5, .iconst 0, 0, 0, 0), (6, .invokestatic 66, 124, 2, 0), (9, .aload_n 0, 0, 0, 0), (10, .iconst 1, 0, 0, 1), (11, .invokestatic 66, 124, 2, 0), (14, .i2l, 0, 0, 0), (15, .aload_n 0, 0, 0, 0), (16, .iconst 2, 0, 0, 2), (17, .invokestatic 66, 124, 2, 0), (20, .i2l, 0, 0, 0), (21, .invokespecial 72, 51, 4, 0), (24, .astore_n 1, 1, 0, 0), (25, .new 75, 6, 0, 0), (28, .dup, 0, 0, 0), (29, .aload_n 0, 0, 0, 0), (30, .iconst 0, 0, 0, 0), (31, .invokestatic 66, 124, 2, 0)]
def pcL_law_1 : List pmE := [(34, .aload_n 0, 0, 0, 0), (35, .iconst 1, 0, 0, 1), (36, .invokestatic 66, 124, 2, 0), (39, .i2l, 0, 0, 0), (40, .aload_n 0, 0, 0, 0), (41, .iconst 2, 0, 0, 2), (42, .invokestatic 66, 124, 2, 0), (45, .i2l, 0, 0, 0), (46, .invokespecial 77, 75, 4, 0), (49, .astore_n 2, 2, 0, 0), (50, .iconst 1, 0, 0, 1), (51, .newarray .long, 0, 0, 0), (53, .astore_n 3, 3, 0, 0), (54, .iconst 3, 0, 0, 3), (55, .istore 4, 4, 0, 0), (57, .iload 4, 4, 0, 0), (59, .aload_n 0, 0, 0, 0), (60, .arraylength, 0, 0, 0), (61, .bipush 10, 0, 0, 10), (63, .isub, 0, 0, 0)]
def pcL_law_2 : List pmE := [(64, .if_icmp .gt 1359, 1423, 0, 0), (67, .aload_n 0, 0, 0, 0), (68, .iload 4, 4, 0, 0), (70, .iaload, 0, 0, 0), (71, .bipush 15, 0, 0, 15), (73, .iand, 0, 0, 0), (74, .tableswitch 1343 0 13 #[70, 189, 233, 289, 454, 701, 764, 820, 900, 956, 1024, 1087, 1143, 1287], 70, 0, 0)]
def pcL_law_3 : List pmE := []
def pcL_law_4 : List pmE := [(144, .aload_n 1, 1, 0, 0), (145, .aload_n 0, 0, 0, 0), (146, .iload 4, 4, 0, 0), (148, .iconst 1, 0, 0, 1), (149, .iadd, 0, 0, 0), (150, .iaload, 0, 0, 0), (151, .aload_n 0, 0, 0, 0), (152, .iload 4, 4, 0, 0), (154, .iconst 2, 0, 0, 2), (155, .iadd, 0, 0, 0), (156, .iaload, 0, 0, 0), (157, .aload_n 0, 0, 0, 0), (158, .iload 4, 4, 0, 0)]
def pcL_law_5 : List pmE := [(160, .iconst 3, 0, 0, 3), (161, .iadd, 0, 0, 0), (162, .iaload, 0, 0, 0), (163, .i2l, 0, 0, 0), (164, .bipush 32, 0, 0, 32), (166, .lshl, 0, 0, 0), (167, .aload_n 0, 0, 0, 0), (168, .iload 4, 4, 0, 0), (170, .iconst 4, 0, 0, 4), (171, .iadd, 0, 0, 0), (172, .iaload, 0, 0, 0), (173, .i2l, 0, 0, 0), (174, .ldc2_w 78, 4294967295, 0, 0), (177, .land, 0, 0, 0), (178, .lor, 0, 0, 0), (179, .aload_n 3, 3, 0, 0), (180, .invokestatic 80, 125, 5, 0), (183, .istore 5, 5, 0, 0), (185, .aload_n 2, 2, 0, 0), (186, .aload_n 0, 0, 0, 0), (187, .iload 4, 4, 0, 0), (189, .iconst 1, 0, 0, 1), (190, .iadd, 0, 0, 0), (191, .iaload, 0, 0, 0)]
def pcL_law_6 : List pmE := [(192, .aload_n 0, 0, 0, 0), (193, .iload 4, 4, 0, 0), (195, .iconst 2, 0, 0, 2), (196, .iadd, 0, 0, 0), (197, .iaload, 0, 0, 0), (198, .aload_n 0, 0, 0, 0), (199, .iload 4, 4, 0, 0), (201, .iconst 3, 0, 0, 3), (202, .iadd, 0, 0, 0), (203, .iaload, 0, 0, 0), (204, .i2l, 0, 0, 0), (205, .bipush 32, 0, 0, 32), (207, .lshl, 0, 0, 0), (208, .aload_n 0, 0, 0, 0), (209, .iload 4, 4, 0, 0), (211, .iconst 4, 0, 0, 4), (212, .iadd, 0, 0, 0), (213, .iaload, 0, 0, 0), (214, .i2l, 0, 0, 0), (215, .ldc2_w 78, 4294967295, 0, 0), (218, .land, 0, 0, 0), (219, .lor, 0, 0, 0), (220, .invokevirtual 83, 85, 4, 0), (223, .istore 6, 6, 0, 0)]
def pcL_law_7 : List pmE := [(225, .aload_n 2, 2, 0, 0), (226, .invokevirtual 84, 76, 1, 0), (229, .iload 5, 5, 0, 0), (231, .if_icmp .eq 5, 236, 0, 0), (234, .iconst 0, 0, 0, 0), (235, .ireturn, 0, 1, 0), (236, .iload 5, 5, 0, 0), (238, .ifCond .ne 22, 260, 0, 0), (241, .aload_n 3, 3, 0, 0), (242, .iconst 0, 0, 0, 0), (243, .laload, 0, 0, 0), (244, .iload 6, 6, 0, 0), (246, .ifCond .eq 7, 253, 0, 0), (249, .lconst 1, 1, 0, 0), (250, .goto 4, 254, 0, 0), (253, .lconst 0, 0, 0, 0), (254, .lcmp, 0, 0, 0), (255, .ifCond .eq 5, 260, 0, 0)]
def pcL_law_8 : List pmE := [(258, .iconst 0, 0, 0, 0), (259, .ireturn, 0, 1, 0), (260, .goto 1157, 1417, 0, 0), (263, .aload_n 1, 1, 0, 0), (264, .aload_n 3, 3, 0, 0), (265, .invokestatic 87, 126, 2, 0), (268, .istore 5, 5, 0, 0), (270, .aload_n 2, 2, 0, 0), (271, .invokevirtual 90, 86, 1, 0), (274, .istore 6, 6, 0, 0), (276, .aload_n 2, 2, 0, 0), (277, .invokevirtual 84, 76, 1, 0), (280, .iload 5, 5, 0, 0), (282, .if_icmp .eq 5, 287, 0, 0), (285, .iconst 0, 0, 0, 0), (286, .ireturn, 0, 1, 0), (287, .iload 5, 5, 0, 0)]
def pcL_law_9 : List pmE := [(289, .ifCond .ne 15, 304, 0, 0), (292, .aload_n 3, 3, 0, 0), (293, .iconst 0, 0, 0, 0), (294, .laload, 0, 0, 0), (295, .iload 6, 6, 0, 0), (297, .i2l, 0, 0, 0), (298, .lcmp, 0, 0, 0), (299, .ifCond .eq 5, 304, 0, 0), (302, .iconst 0, 0, 0, 0), (303, .ireturn, 0, 1, 0), (304, .goto 1113, 1417, 0, 0), (307, .aload_n 1, 1, 0, 0), (308, .aload_n 0, 0, 0, 0), (309, .iload 4, 4, 0, 0), (311, .iconst 1, 0, 0, 1), (312, .iadd, 0, 0, 0), (313, .iaload, 0, 0, 0), (314, .aload_n 3, 3, 0, 0), (315, .invokestatic 91, 127, 3, 0), (318, .istore 5, 5, 0, 0)]
def pcL_law_10 : List pmE := [(320, .aload_n 2, 2, 0, 0), (321, .aload_n 0, 0, 0, 0), (322, .iload 4, 4, 0, 0), (324, .iconst 1, 0, 0, 1), (325, .iadd, 0, 0, 0), (326, .iaload, 0, 0, 0), (327, .invokevirtual 94, 89, 2, 0), (330, .istore 6, 6, 0, 0), (332, .aload_n 2, 2, 0, 0), (333, .invokevirtual 84, 76, 1, 0), (336, .iload 5, 5, 0, 0), (338, .if_icmp .eq 5, 343, 0, 0), (341, .iconst 0, 0, 0, 0), (342, .ireturn, 0, 1, 0), (343, .iload 5, 5, 0, 0), (345, .ifCond .ne 15, 360, 0, 0), (348, .aload_n 3, 3, 0, 0), (349, .iconst 0, 0, 0, 0), (350, .laload, 0, 0, 0), (351, .iload 6, 6, 0, 0)]
def pcL_law_11 : List pmE := [(353, .i2l, 0, 0, 0), (354, .lcmp, 0, 0, 0), (355, .ifCond .eq 5, 360, 0, 0), (358, .iconst 0, 0, 0, 0), (359, .ireturn, 0, 1, 0), (360, .goto 1057, 1417, 0, 0), (363, .aload_n 1, 1, 0, 0), (364, .aload_n 0, 0, 0, 0), (365, .iload 4, 4, 0, 0), (367, .iconst 1, 0, 0, 1), (368, .iadd, 0, 0, 0), (369, .iaload, 0, 0, 0), (370, .aload_n 0, 0, 0, 0), (371, .iload 4, 4, 0, 0), (373, .iconst 2, 0, 0, 2), (374, .iadd, 0, 0, 0), (375, .iaload, 0, 0, 0), (376, .aload_n 0, 0, 0, 0), (377, .iload 4, 4, 0, 0), (379, .iconst 3, 0, 0, 3), (380, .iadd, 0, 0, 0), (381, .iaload, 0, 0, 0), (382, .i2l, 0, 0, 0), (383, .bipush 32, 0, 0, 32)]
def pcL_law_12 : List pmE := [(385, .lshl, 0, 0, 0), (386, .aload_n 0, 0, 0, 0), (387, .iload 4, 4, 0, 0), (389, .iconst 4, 0, 0, 4), (390, .iadd, 0, 0, 0), (391, .iaload, 0, 0, 0), (392, .i2l, 0, 0, 0), (393, .ldc2_w 78, 4294967295, 0, 0), (396, .land, 0, 0, 0), (397, .lor, 0, 0, 0), (398, .aload_n 0, 0, 0, 0), (399, .iload 4, 4, 0, 0), (401, .iconst 5, 0, 0, 5), (402, .iadd, 0, 0, 0), (403, .iaload, 0, 0, 0), (404, .i2l, 0, 0, 0), (405, .bipush 32, 0, 0, 32), (407, .lshl, 0, 0, 0), (408, .aload_n 0, 0, 0, 0), (409, .iload 4, 4, 0, 0), (411, .bipush 6, 0, 0, 6), (413, .iadd, 0, 0, 0), (414, .iaload, 0, 0, 0), (415, .i2l, 0, 0, 0)]
def pcL_law_13 : List pmE := [(416, .ldc2_w 78, 4294967295, 0, 0), (419, .land, 0, 0, 0), (420, .lor, 0, 0, 0), (421, .aload_n 3, 3, 0, 0), (422, .invokestatic 95, 128, 6, 0), (425, .istore 5, 5, 0, 0), (427, .aload_n 2, 2, 0, 0), (428, .aload_n 0, 0, 0, 0), (429, .iload 4, 4, 0, 0), (431, .iconst 1, 0, 0, 1), (432, .iadd, 0, 0, 0), (433, .iaload, 0, 0, 0), (434, .aload_n 0, 0, 0, 0), (435, .iload 4, 4, 0, 0), (437, .iconst 2, 0, 0, 2), (438, .iadd, 0, 0, 0), (439, .iaload, 0, 0, 0), (440, .aload_n 0, 0, 0, 0), (441, .iload 4, 4, 0, 0), (443, .iconst 3, 0, 0, 3), (444, .iadd, 0, 0, 0), (445, .iaload, 0, 0, 0), (446, .i2l, 0, 0, 0), (447, .bipush 32, 0, 0, 32)]
def pcL_law_14 : List pmE := [(449, .lshl, 0, 0, 0), (450, .aload_n 0, 0, 0, 0), (451, .iload 4, 4, 0, 0), (453, .iconst 4, 0, 0, 4), (454, .iadd, 0, 0, 0), (455, .iaload, 0, 0, 0), (456, .i2l, 0, 0, 0), (457, .ldc2_w 78, 4294967295, 0, 0), (460, .land, 0, 0, 0), (461, .lor, 0, 0, 0), (462, .aload_n 0, 0, 0, 0), (463, .iload 4, 4, 0, 0), (465, .iconst 5, 0, 0, 5), (466, .iadd, 0, 0, 0), (467, .iaload, 0, 0, 0), (468, .i2l, 0, 0, 0), (469, .bipush 32, 0, 0, 32), (471, .lshl, 0, 0, 0), (472, .aload_n 0, 0, 0, 0), (473, .iload 4, 4, 0, 0), (475, .bipush 6, 0, 0, 6), (477, .iadd, 0, 0, 0), (478, .iaload, 0, 0, 0), (479, .i2l, 0, 0, 0)]
def pcL_law_15 : List pmE := [(480, .ldc2_w 78, 4294967295, 0, 0), (483, .land, 0, 0, 0), (484, .lor, 0, 0, 0), (485, .invokevirtual 98, 90, 5, 0), (488, .istore 6, 6, 0, 0), (490, .aload_n 2, 2, 0, 0), (491, .invokevirtual 84, 76, 1, 0), (494, .iload 5, 5, 0, 0), (496, .if_icmp .eq 5, 501, 0, 0), (499, .iconst 0, 0, 0, 0), (500, .ireturn, 0, 1, 0), (501, .iload 5, 5, 0, 0), (503, .ifCond .ne 22, 525, 0, 0), (506, .aload_n 3, 3, 0, 0), (507, .iconst 0, 0, 0, 0), (508, .laload, 0, 0, 0), (509, .iload 6, 6, 0, 0), (511, .ifCond .eq 7, 518, 0, 0)]
def pcL_law_16 : List pmE := [(514, .lconst 1, 1, 0, 0), (515, .goto 4, 519, 0, 0), (518, .lconst 0, 0, 0, 0), (519, .lcmp, 0, 0, 0), (520, .ifCond .eq 5, 525, 0, 0), (523, .iconst 0, 0, 0, 0), (524, .ireturn, 0, 1, 0), (525, .goto 892, 1417, 0, 0), (528, .aload_n 1, 1, 0, 0), (529, .aload_n 0, 0, 0, 0), (530, .iload 4, 4, 0, 0), (532, .iconst 1, 0, 0, 1), (533, .iadd, 0, 0, 0), (534, .iaload, 0, 0, 0), (535, .aload_n 0, 0, 0, 0), (536, .iload 4, 4, 0, 0), (538, .iconst 2, 0, 0, 2), (539, .iadd, 0, 0, 0), (540, .iaload, 0, 0, 0), (541, .i2l, 0, 0, 0), (542, .bipush 32, 0, 0, 32)]
def pcL_law_17 : List pmE := [(544, .lshl, 0, 0, 0), (545, .aload_n 0, 0, 0, 0), (546, .iload 4, 4, 0, 0), (548, .iconst 3, 0, 0, 3), (549, .iadd, 0, 0, 0), (550, .iaload, 0, 0, 0), (551, .i2l, 0, 0, 0), (552, .ldc2_w 78, 4294967295, 0, 0), (555, .land, 0, 0, 0), (556, .lor, 0, 0, 0), (557, .aload_n 0, 0, 0, 0), (558, .iload 4, 4, 0, 0), (560, .iconst 4, 0, 0, 4), (561, .iadd, 0, 0, 0), (562, .iaload, 0, 0, 0), (563, .i2l, 0, 0, 0), (564, .bipush 32, 0, 0, 32), (566, .lshl, 0, 0, 0), (567, .aload_n 0, 0, 0, 0), (568, .iload 4, 4, 0, 0), (570, .iconst 5, 0, 0, 5), (571, .iadd, 0, 0, 0), (572, .iaload, 0, 0, 0), (573, .i2l, 0, 0, 0), (574, .ldc2_w 78, 4294967295, 0, 0)]
def pcL_law_18 : List pmE := [(577, .land, 0, 0, 0), (578, .lor, 0, 0, 0), (579, .aload_n 0, 0, 0, 0), (580, .iload 4, 4, 0, 0), (582, .bipush 6, 0, 0, 6), (584, .iadd, 0, 0, 0), (585, .iaload, 0, 0, 0), (586, .i2l, 0, 0, 0), (587, .bipush 32, 0, 0, 32), (589, .lshl, 0, 0, 0), (590, .aload_n 0, 0, 0, 0), (591, .iload 4, 4, 0, 0), (593, .bipush 7, 0, 0, 7), (595, .iadd, 0, 0, 0), (596, .iaload, 0, 0, 0), (597, .i2l, 0, 0, 0), (598, .ldc2_w 78, 4294967295, 0, 0), (601, .land, 0, 0, 0), (602, .lor, 0, 0, 0), (603, .aload_n 0, 0, 0, 0), (604, .iload 4, 4, 0, 0), (606, .bipush 8, 0, 0, 8)]
def pcL_law_19 : List pmE := [(608, .iadd, 0, 0, 0), (609, .iaload, 0, 0, 0), (610, .i2l, 0, 0, 0), (611, .bipush 32, 0, 0, 32), (613, .lshl, 0, 0, 0), (614, .aload_n 0, 0, 0, 0), (615, .iload 4, 4, 0, 0), (617, .bipush 9, 0, 0, 9), (619, .iadd, 0, 0, 0), (620, .iaload, 0, 0, 0), (621, .i2l, 0, 0, 0), (622, .ldc2_w 78, 4294967295, 0, 0), (625, .land, 0, 0, 0), (626, .lor, 0, 0, 0), (627, .aload_n 3, 3, 0, 0), (628, .invokestatic 99, 129, 7, 0), (631, .istore 5, 5, 0, 0), (633, .aload_n 2, 2, 0, 0), (634, .aload_n 0, 0, 0, 0), (635, .iload 4, 4, 0, 0), (637, .iconst 1, 0, 0, 1), (638, .iadd, 0, 0, 0), (639, .iaload, 0, 0, 0)]
def pcL_law_20 : List pmE := [(640, .aload_n 0, 0, 0, 0), (641, .iload 4, 4, 0, 0), (643, .iconst 2, 0, 0, 2), (644, .iadd, 0, 0, 0), (645, .iaload, 0, 0, 0), (646, .i2l, 0, 0, 0), (647, .bipush 32, 0, 0, 32), (649, .lshl, 0, 0, 0), (650, .aload_n 0, 0, 0, 0), (651, .iload 4, 4, 0, 0), (653, .iconst 3, 0, 0, 3), (654, .iadd, 0, 0, 0), (655, .iaload, 0, 0, 0), (656, .i2l, 0, 0, 0), (657, .ldc2_w 78, 4294967295, 0, 0), (660, .land, 0, 0, 0), (661, .lor, 0, 0, 0), (662, .aload_n 0, 0, 0, 0), (663, .iload 4, 4, 0, 0), (665, .iconst 4, 0, 0, 4), (666, .iadd, 0, 0, 0), (667, .iaload, 0, 0, 0), (668, .i2l, 0, 0, 0), (669, .bipush 32, 0, 0, 32), (671, .lshl, 0, 0, 0)]
def pcL_law_21 : List pmE := [(672, .aload_n 0, 0, 0, 0), (673, .iload 4, 4, 0, 0), (675, .iconst 5, 0, 0, 5), (676, .iadd, 0, 0, 0), (677, .iaload, 0, 0, 0), (678, .i2l, 0, 0, 0), (679, .ldc2_w 78, 4294967295, 0, 0), (682, .land, 0, 0, 0), (683, .lor, 0, 0, 0), (684, .aload_n 0, 0, 0, 0), (685, .iload 4, 4, 0, 0), (687, .bipush 6, 0, 0, 6), (689, .iadd, 0, 0, 0), (690, .iaload, 0, 0, 0), (691, .i2l, 0, 0, 0), (692, .bipush 32, 0, 0, 32), (694, .lshl, 0, 0, 0), (695, .aload_n 0, 0, 0, 0), (696, .iload 4, 4, 0, 0), (698, .bipush 7, 0, 0, 7), (700, .iadd, 0, 0, 0), (701, .iaload, 0, 0, 0), (702, .i2l, 0, 0, 0), (703, .ldc2_w 78, 4294967295, 0, 0)]
def pcL_law_22 : List pmE := [(706, .land, 0, 0, 0), (707, .lor, 0, 0, 0), (708, .aload_n 0, 0, 0, 0), (709, .iload 4, 4, 0, 0), (711, .bipush 8, 0, 0, 8), (713, .iadd, 0, 0, 0), (714, .iaload, 0, 0, 0), (715, .i2l, 0, 0, 0), (716, .bipush 32, 0, 0, 32), (718, .lshl, 0, 0, 0), (719, .aload_n 0, 0, 0, 0), (720, .iload 4, 4, 0, 0), (722, .bipush 9, 0, 0, 9), (724, .iadd, 0, 0, 0), (725, .iaload, 0, 0, 0), (726, .i2l, 0, 0, 0), (727, .ldc2_w 78, 4294967295, 0, 0), (730, .land, 0, 0, 0), (731, .lor, 0, 0, 0), (732, .invokevirtual 102, 91, 6, 0), (735, .istore 6, 6, 0, 0)]
def pcL_law_23 : List pmE := [(737, .aload_n 2, 2, 0, 0), (738, .invokevirtual 84, 76, 1, 0), (741, .iload 5, 5, 0, 0), (743, .if_icmp .eq 5, 748, 0, 0), (746, .iconst 0, 0, 0, 0), (747, .ireturn, 0, 1, 0), (748, .iload 5, 5, 0, 0), (750, .ifCond .ne 22, 772, 0, 0), (753, .aload_n 3, 3, 0, 0), (754, .iconst 0, 0, 0, 0), (755, .laload, 0, 0, 0), (756, .iload 6, 6, 0, 0), (758, .ifCond .eq 7, 765, 0, 0), (761, .lconst 1, 1, 0, 0), (762, .goto 4, 766, 0, 0), (765, .lconst 0, 0, 0, 0), (766, .lcmp, 0, 0, 0), (767, .ifCond .eq 5, 772, 0, 0)]
def pcL_law_24 : List pmE := [(770, .iconst 0, 0, 0, 0), (771, .ireturn, 0, 1, 0), (772, .goto 645, 1417, 0, 0), (775, .aload_n 1, 1, 0, 0), (776, .aload_n 0, 0, 0, 0), (777, .iload 4, 4, 0, 0), (779, .iconst 1, 0, 0, 1), (780, .iadd, 0, 0, 0), (781, .iaload, 0, 0, 0), (782, .aload_n 3, 3, 0, 0), (783, .invokestatic 103, 130, 3, 0), (786, .istore 5, 5, 0, 0), (788, .aload_n 2, 2, 0, 0), (789, .aload_n 0, 0, 0, 0), (790, .iload 4, 4, 0, 0), (792, .iconst 1, 0, 0, 1), (793, .iadd, 0, 0, 0), (794, .iaload, 0, 0, 0), (795, .invokevirtual 105, 92, 2, 0), (798, .istore 6, 6, 0, 0)]
def pcL_law_25 : List pmE := [(800, .aload_n 2, 2, 0, 0), (801, .invokevirtual 84, 76, 1, 0), (804, .iload 5, 5, 0, 0), (806, .if_icmp .eq 5, 811, 0, 0), (809, .iconst 0, 0, 0, 0), (810, .ireturn, 0, 1, 0), (811, .iload 5, 5, 0, 0), (813, .ifCond .ne 22, 835, 0, 0), (816, .aload_n 3, 3, 0, 0), (817, .iconst 0, 0, 0, 0), (818, .laload, 0, 0, 0), (819, .iload 6, 6, 0, 0), (821, .ifCond .eq 7, 828, 0, 0), (824, .lconst 1, 1, 0, 0), (825, .goto 4, 829, 0, 0), (828, .lconst 0, 0, 0, 0), (829, .lcmp, 0, 0, 0), (830, .ifCond .eq 5, 835, 0, 0)]
def pcL_law_26 : List pmE := [(833, .iconst 0, 0, 0, 0), (834, .ireturn, 0, 1, 0), (835, .goto 582, 1417, 0, 0), (838, .aload_n 1, 1, 0, 0), (839, .aload_n 0, 0, 0, 0), (840, .iload 4, 4, 0, 0), (842, .iconst 1, 0, 0, 1), (843, .iadd, 0, 0, 0), (844, .iaload, 0, 0, 0), (845, .aload_n 3, 3, 0, 0), (846, .invokestatic 106, 131, 3, 0), (849, .istore 5, 5, 0, 0), (851, .aload_n 2, 2, 0, 0), (852, .aload_n 0, 0, 0, 0), (853, .iload 4, 4, 0, 0), (855, .iconst 1, 0, 0, 1), (856, .iadd, 0, 0, 0), (857, .iaload, 0, 0, 0), (858, .invokevirtual 108, 112, 2, 0), (861, .istore 6, 6, 0, 0), (863, .aload_n 2, 2, 0, 0)]
def pcL_law_27 : List pmE := [(864, .invokevirtual 84, 76, 1, 0), (867, .iload 5, 5, 0, 0), (869, .if_icmp .eq 5, 874, 0, 0), (872, .iconst 0, 0, 0, 0), (873, .ireturn, 0, 1, 0), (874, .iload 5, 5, 0, 0), (876, .ifCond .ne 15, 891, 0, 0), (879, .aload_n 3, 3, 0, 0), (880, .iconst 0, 0, 0, 0), (881, .laload, 0, 0, 0), (882, .iload 6, 6, 0, 0), (884, .i2l, 0, 0, 0), (885, .lcmp, 0, 0, 0), (886, .ifCond .eq 5, 891, 0, 0), (889, .iconst 0, 0, 0, 0), (890, .ireturn, 0, 1, 0), (891, .goto 526, 1417, 0, 0), (894, .aload_n 1, 1, 0, 0), (895, .aload_n 0, 0, 0, 0)]
def pcL_law_28 : List pmE := [(896, .iload 4, 4, 0, 0), (898, .iconst 1, 0, 0, 1), (899, .iadd, 0, 0, 0), (900, .iaload, 0, 0, 0), (901, .aload_n 0, 0, 0, 0), (902, .iload 4, 4, 0, 0), (904, .iconst 2, 0, 0, 2), (905, .iadd, 0, 0, 0), (906, .iaload, 0, 0, 0), (907, .aload_n 0, 0, 0, 0), (908, .iload 4, 4, 0, 0), (910, .iconst 3, 0, 0, 3), (911, .iadd, 0, 0, 0), (912, .iaload, 0, 0, 0), (913, .aload_n 3, 3, 0, 0), (914, .invokestatic 109, 132, 5, 0), (917, .istore 5, 5, 0, 0), (919, .aload_n 2, 2, 0, 0), (920, .aload_n 0, 0, 0, 0), (921, .iload 4, 4, 0, 0), (923, .iconst 1, 0, 0, 1), (924, .iadd, 0, 0, 0), (925, .iaload, 0, 0, 0), (926, .aload_n 0, 0, 0, 0), (927, .iload 4, 4, 0, 0)]
def pcL_law_29 : List pmE := [(929, .iconst 2, 0, 0, 2), (930, .iadd, 0, 0, 0), (931, .iaload, 0, 0, 0), (932, .aload_n 0, 0, 0, 0), (933, .iload 4, 4, 0, 0), (935, .iconst 3, 0, 0, 3), (936, .iadd, 0, 0, 0), (937, .iaload, 0, 0, 0), (938, .invokevirtual 112, 115, 4, 0), (941, .istore 6, 6, 0, 0), (943, .aload_n 2, 2, 0, 0), (944, .invokevirtual 84, 76, 1, 0), (947, .iload 5, 5, 0, 0), (949, .if_icmp .eq 5, 954, 0, 0), (952, .iconst 0, 0, 0, 0), (953, .ireturn, 0, 1, 0), (954, .iload 5, 5, 0, 0), (956, .ifCond .ne 15, 971, 0, 0), (959, .aload_n 3, 3, 0, 0)]
def pcL_law_30 : List pmE := [(960, .iconst 0, 0, 0, 0), (961, .laload, 0, 0, 0), (962, .iload 6, 6, 0, 0), (964, .i2l, 0, 0, 0), (965, .lcmp, 0, 0, 0), (966, .ifCond .eq 5, 971, 0, 0), (969, .iconst 0, 0, 0, 0), (970, .ireturn, 0, 1, 0), (971, .goto 446, 1417, 0, 0), (974, .aload_n 1, 1, 0, 0), (975, .aload_n 0, 0, 0, 0), (976, .iload 4, 4, 0, 0), (978, .iconst 1, 0, 0, 1), (979, .iadd, 0, 0, 0), (980, .iaload, 0, 0, 0), (981, .aload_n 3, 3, 0, 0), (982, .invokestatic 113, 133, 3, 0), (985, .istore 5, 5, 0, 0), (987, .aload_n 2, 2, 0, 0), (988, .aload_n 0, 0, 0, 0), (989, .iload 4, 4, 0, 0), (991, .iconst 1, 0, 0, 1)]
def pcL_law_31 : List pmE := [(992, .iadd, 0, 0, 0), (993, .iaload, 0, 0, 0), (994, .invokevirtual 115, 116, 2, 0), (997, .istore 6, 6, 0, 0), (999, .aload_n 2, 2, 0, 0), (1000, .invokevirtual 84, 76, 1, 0), (1003, .iload 5, 5, 0, 0), (1005, .if_icmp .eq 5, 1010, 0, 0), (1008, .iconst 0, 0, 0, 0), (1009, .ireturn, 0, 1, 0), (1010, .iload 5, 5, 0, 0), (1012, .ifCond .ne 15, 1027, 0, 0), (1015, .aload_n 3, 3, 0, 0), (1016, .iconst 0, 0, 0, 0), (1017, .laload, 0, 0, 0), (1018, .iload 6, 6, 0, 0), (1020, .i2l, 0, 0, 0), (1021, .lcmp, 0, 0, 0), (1022, .ifCond .eq 5, 1027, 0, 0)]
def pcL_law_32 : List pmE := [(1025, .iconst 0, 0, 0, 0), (1026, .ireturn, 0, 1, 0), (1027, .goto 390, 1417, 0, 0), (1030, .aload_n 1, 1, 0, 0), (1031, .aload_n 0, 0, 0, 0), (1032, .iload 4, 4, 0, 0), (1034, .iconst 1, 0, 0, 1), (1035, .iadd, 0, 0, 0), (1036, .iaload, 0, 0, 0), (1037, .aload_n 0, 0, 0, 0), (1038, .iload 4, 4, 0, 0), (1040, .iconst 2, 0, 0, 2), (1041, .iadd, 0, 0, 0), (1042, .iaload, 0, 0, 0), (1043, .aload_n 3, 3, 0, 0), (1044, .invokestatic 116, 134, 4, 0), (1047, .istore 5, 5, 0, 0), (1049, .aload_n 2, 2, 0, 0), (1050, .aload_n 0, 0, 0, 0), (1051, .iload 4, 4, 0, 0), (1053, .iconst 1, 0, 0, 1), (1054, .iadd, 0, 0, 0), (1055, .iaload, 0, 0, 0)]
def pcL_law_33 : List pmE := [(1056, .aload_n 0, 0, 0, 0), (1057, .iload 4, 4, 0, 0), (1059, .iconst 2, 0, 0, 2), (1060, .iadd, 0, 0, 0), (1061, .iaload, 0, 0, 0), (1062, .invokevirtual 119, 117, 3, 0), (1065, .istore 6, 6, 0, 0), (1067, .aload_n 2, 2, 0, 0), (1068, .invokevirtual 84, 76, 1, 0), (1071, .iload 5, 5, 0, 0), (1073, .if_icmp .eq 5, 1078, 0, 0), (1076, .iconst 0, 0, 0, 0), (1077, .ireturn, 0, 1, 0), (1078, .iload 5, 5, 0, 0), (1080, .ifCond .ne 15, 1095, 0, 0), (1083, .aload_n 3, 3, 0, 0), (1084, .iconst 0, 0, 0, 0), (1085, .laload, 0, 0, 0), (1086, .iload 6, 6, 0, 0)]
def pcL_law_34 : List pmE := [(1088, .i2l, 0, 0, 0), (1089, .lcmp, 0, 0, 0), (1090, .ifCond .eq 5, 1095, 0, 0), (1093, .iconst 0, 0, 0, 0), (1094, .ireturn, 0, 1, 0), (1095, .goto 322, 1417, 0, 0), (1098, .aload_n 1, 1, 0, 0), (1099, .aload_n 0, 0, 0, 0), (1100, .iload 4, 4, 0, 0), (1102, .iconst 1, 0, 0, 1), (1103, .iadd, 0, 0, 0), (1104, .iaload, 0, 0, 0), (1105, .aload_n 3, 3, 0, 0), (1106, .invokestatic 120, 135, 3, 0), (1109, .istore 5, 5, 0, 0), (1111, .aload_n 2, 2, 0, 0), (1112, .aload_n 0, 0, 0, 0), (1113, .iload 4, 4, 0, 0), (1115, .iconst 1, 0, 0, 1), (1116, .iadd, 0, 0, 0), (1117, .iaload, 0, 0, 0), (1118, .invokevirtual 122, 118, 2, 0)]
def pcL_law_35 : List pmE := [(1121, .istore 6, 6, 0, 0), (1123, .aload_n 2, 2, 0, 0), (1124, .invokevirtual 84, 76, 1, 0), (1127, .iload 5, 5, 0, 0), (1129, .if_icmp .eq 5, 1134, 0, 0), (1132, .iconst 0, 0, 0, 0), (1133, .ireturn, 0, 1, 0), (1134, .iload 5, 5, 0, 0), (1136, .ifCond .ne 22, 1158, 0, 0), (1139, .aload_n 3, 3, 0, 0), (1140, .iconst 0, 0, 0, 0), (1141, .laload, 0, 0, 0), (1142, .iload 6, 6, 0, 0), (1144, .ifCond .eq 7, 1151, 0, 0), (1147, .lconst 1, 1, 0, 0), (1148, .goto 4, 1152, 0, 0), (1151, .lconst 0, 0, 0, 0)]
def pcL_law_36 : List pmE := [(1152, .lcmp, 0, 0, 0), (1153, .ifCond .eq 5, 1158, 0, 0), (1156, .iconst 0, 0, 0, 0), (1157, .ireturn, 0, 1, 0), (1158, .goto 259, 1417, 0, 0), (1161, .aload_n 1, 1, 0, 0), (1162, .aload_n 0, 0, 0, 0), (1163, .iload 4, 4, 0, 0), (1165, .iconst 1, 0, 0, 1), (1166, .iadd, 0, 0, 0), (1167, .iaload, 0, 0, 0), (1168, .aload_n 3, 3, 0, 0), (1169, .invokestatic 123, 136, 3, 0), (1172, .istore 5, 5, 0, 0), (1174, .aload_n 2, 2, 0, 0), (1175, .aload_n 0, 0, 0, 0), (1176, .iload 4, 4, 0, 0), (1178, .iconst 1, 0, 0, 1), (1179, .iadd, 0, 0, 0), (1180, .iaload, 0, 0, 0), (1181, .invokevirtual 125, 121, 2, 0)]
def pcL_law_37 : List pmE := [(1184, .istore 6, 6, 0, 0), (1186, .aload_n 2, 2, 0, 0), (1187, .invokevirtual 84, 76, 1, 0), (1190, .iload 5, 5, 0, 0), (1192, .if_icmp .eq 5, 1197, 0, 0), (1195, .iconst 0, 0, 0, 0), (1196, .ireturn, 0, 1, 0), (1197, .iload 5, 5, 0, 0), (1199, .ifCond .ne 15, 1214, 0, 0), (1202, .aload_n 3, 3, 0, 0), (1203, .iconst 0, 0, 0, 0), (1204, .laload, 0, 0, 0), (1205, .iload 6, 6, 0, 0), (1207, .i2l, 0, 0, 0), (1208, .lcmp, 0, 0, 0), (1209, .ifCond .eq 5, 1214, 0, 0), (1212, .iconst 0, 0, 0, 0), (1213, .ireturn, 0, 1, 0), (1214, .goto 203, 1417, 0, 0)]
def pcL_law_38 : List pmE := [(1217, .aload_n 1, 1, 0, 0), (1218, .aload_n 0, 0, 0, 0), (1219, .iload 4, 4, 0, 0), (1221, .iconst 1, 0, 0, 1), (1222, .iadd, 0, 0, 0), (1223, .iaload, 0, 0, 0), (1224, .aload_n 0, 0, 0, 0), (1225, .iload 4, 4, 0, 0), (1227, .iconst 2, 0, 0, 2), (1228, .iadd, 0, 0, 0), (1229, .iaload, 0, 0, 0), (1230, .i2l, 0, 0, 0), (1231, .bipush 32, 0, 0, 32), (1233, .lshl, 0, 0, 0), (1234, .aload_n 0, 0, 0, 0), (1235, .iload 4, 4, 0, 0), (1237, .iconst 3, 0, 0, 3), (1238, .iadd, 0, 0, 0), (1239, .iaload, 0, 0, 0), (1240, .i2l, 0, 0, 0), (1241, .ldc2_w 78, 4294967295, 0, 0), (1244, .land, 0, 0, 0), (1245, .lor, 0, 0, 0), (1246, .aload_n 0, 0, 0, 0), (1247, .iload 4, 4, 0, 0)]
def pcL_law_39 : List pmE := [(1249, .iconst 4, 0, 0, 4), (1250, .iadd, 0, 0, 0), (1251, .iaload, 0, 0, 0), (1252, .i2l, 0, 0, 0), (1253, .bipush 32, 0, 0, 32), (1255, .lshl, 0, 0, 0), (1256, .aload_n 0, 0, 0, 0), (1257, .iload 4, 4, 0, 0), (1259, .iconst 5, 0, 0, 5), (1260, .iadd, 0, 0, 0), (1261, .iaload, 0, 0, 0), (1262, .i2l, 0, 0, 0), (1263, .ldc2_w 78, 4294967295, 0, 0), (1266, .land, 0, 0, 0), (1267, .lor, 0, 0, 0), (1268, .aload_n 3, 3, 0, 0), (1269, .invokestatic 126, 137, 5, 0), (1272, .istore 5, 5, 0, 0), (1274, .aload_n 2, 2, 0, 0), (1275, .aload_n 0, 0, 0, 0), (1276, .iload 4, 4, 0, 0), (1278, .iconst 1, 0, 0, 1), (1279, .iadd, 0, 0, 0)]
def pcL_law_40 : List pmE := [(1280, .iaload, 0, 0, 0), (1281, .aload_n 0, 0, 0, 0), (1282, .iload 4, 4, 0, 0), (1284, .iconst 2, 0, 0, 2), (1285, .iadd, 0, 0, 0), (1286, .iaload, 0, 0, 0), (1287, .i2l, 0, 0, 0), (1288, .bipush 32, 0, 0, 32), (1290, .lshl, 0, 0, 0), (1291, .aload_n 0, 0, 0, 0), (1292, .iload 4, 4, 0, 0), (1294, .iconst 3, 0, 0, 3), (1295, .iadd, 0, 0, 0), (1296, .iaload, 0, 0, 0), (1297, .i2l, 0, 0, 0), (1298, .ldc2_w 78, 4294967295, 0, 0), (1301, .land, 0, 0, 0), (1302, .lor, 0, 0, 0), (1303, .aload_n 0, 0, 0, 0), (1304, .iload 4, 4, 0, 0), (1306, .iconst 4, 0, 0, 4), (1307, .iadd, 0, 0, 0), (1308, .iaload, 0, 0, 0), (1309, .i2l, 0, 0, 0), (1310, .bipush 32, 0, 0, 32)]
def pcL_law_41 : List pmE := [(1312, .lshl, 0, 0, 0), (1313, .aload_n 0, 0, 0, 0), (1314, .iload 4, 4, 0, 0), (1316, .iconst 5, 0, 0, 5), (1317, .iadd, 0, 0, 0), (1318, .iaload, 0, 0, 0), (1319, .i2l, 0, 0, 0), (1320, .ldc2_w 78, 4294967295, 0, 0), (1323, .land, 0, 0, 0), (1324, .lor, 0, 0, 0), (1325, .invokevirtual 129, 122, 4, 0), (1328, .istore 6, 6, 0, 0), (1330, .aload_n 2, 2, 0, 0), (1331, .invokevirtual 84, 76, 1, 0), (1334, .iload 5, 5, 0, 0), (1336, .if_icmp .eq 5, 1341, 0, 0), (1339, .iconst 0, 0, 0, 0), (1340, .ireturn, 0, 1, 0), (1341, .iload 5, 5, 0, 0), (1343, .ifCond .ne 15, 1358, 0, 0)]
def pcL_law_42 : List pmE := [(1346, .aload_n 3, 3, 0, 0), (1347, .iconst 0, 0, 0, 0), (1348, .laload, 0, 0, 0), (1349, .iload 6, 6, 0, 0), (1351, .i2l, 0, 0, 0), (1352, .lcmp, 0, 0, 0), (1353, .ifCond .eq 5, 1358, 0, 0), (1356, .iconst 0, 0, 0, 0), (1357, .ireturn, 0, 1, 0), (1358, .goto 59, 1417, 0, 0), (1361, .aload_n 1, 1, 0, 0), (1362, .aload_n 0, 0, 0, 0), (1363, .iload 4, 4, 0, 0), (1365, .iconst 1, 0, 0, 1), (1366, .iadd, 0, 0, 0), (1367, .iaload, 0, 0, 0), (1368, .aload_n 3, 3, 0, 0), (1369, .invokestatic 130, 138, 3, 0), (1372, .istore 5, 5, 0, 0), (1374, .aload_n 2, 2, 0, 0), (1375, .aload_n 0, 0, 0, 0)]
def pcL_law_43 : List pmE := [(1376, .iload 4, 4, 0, 0), (1378, .iconst 1, 0, 0, 1), (1379, .iadd, 0, 0, 0), (1380, .iaload, 0, 0, 0), (1381, .invokevirtual 132, 123, 2, 0), (1384, .istore 6, 6, 0, 0), (1386, .aload_n 2, 2, 0, 0), (1387, .invokevirtual 84, 76, 1, 0), (1390, .iload 5, 5, 0, 0), (1392, .if_icmp .eq 5, 1397, 0, 0), (1395, .iconst 0, 0, 0, 0), (1396, .ireturn, 0, 1, 0), (1397, .iload 5, 5, 0, 0), (1399, .ifCond .ne 15, 1414, 0, 0), (1402, .aload_n 3, 3, 0, 0), (1403, .iconst 0, 0, 0, 0), (1404, .laload, 0, 0, 0), (1405, .iload 6, 6, 0, 0), (1407, .i2l, 0, 0, 0)]
def pcL_law_44 : List pmE := [(1408, .lcmp, 0, 0, 0), (1409, .ifCond .eq 5, 1414, 0, 0), (1412, .iconst 0, 0, 0, 0), (1413, .ireturn, 0, 1, 0), (1414, .goto 3, 1417, 0, 0), (1417, .iinc 4 10, 4, 0, 10), (1420, .goto (-1363), 57, 0, 0), (1423, .iconst 1, 0, 0, 1), (1424, .ireturn, 0, 1, 0)]
def pcL_law : List (List pmE) := [pcL_law_0, pcL_law_1, pcL_law_2, pcL_law_3, pcL_law_4, pcL_law_5, pcL_law_6, pcL_law_7, pcL_law_8, pcL_law_9, pcL_law_10, pcL_law_11, pcL_law_12, pcL_law_13, pcL_law_14, pcL_law_15, pcL_law_16, pcL_law_17, pcL_law_18, pcL_law_19, pcL_law_20, pcL_law_21, pcL_law_22, pcL_law_23, pcL_law_24, pcL_law_25, pcL_law_26, pcL_law_27, pcL_law_28, pcL_law_29, pcL_law_30, pcL_law_31, pcL_law_32, pcL_law_33, pcL_law_34, pcL_law_35, pcL_law_36, pcL_law_37, pcL_law_38, pcL_law_39, pcL_law_40, pcL_law_41, pcL_law_42, pcL_law_43, pcL_law_44]
end
section
abbrev m_J6_bitCount_0f7a4 : Nat := 0
abbrev m_J7_fill_53178 : Nat := 1
abbrev m_X0_init : Nat := 2
abbrev m_X0_addNet : Nat := 3
abbrev m_X0_addPin : Nat := 4
abbrev m_X0_accessPlace : Nat := 5
abbrev m_X0_hasAccess : Nat := 6
abbrev m_X0_addAccess : Nat := 7
abbrev m_X1_init : Nat := 8
abbrev m_X1_clear : Nat := 9
abbrev m_X1_offer : Nat := 10
abbrev m_X1_take : Nat := 11
abbrev m_X1_sink : Nat := 12
abbrev m_X1_isBefore : Nat := 13
abbrev m_X1_put : Nat := 14
abbrev m_X2_init : Nat := 15
abbrev m_X2_numberPlaces : Nat := 16
abbrev m_X2_placeAt : Nat := 17
abbrev m_X2_close : Nat := 18
abbrev m_X2_beside : Nat := 19
abbrev m_X2_stepCost : Nat := 20
abbrev m_X3_init : Nat := 21
abbrev m_X3_begin : Nat := 22
abbrev m_X3_choosePlaces : Nat := 23
abbrev m_X3_firstFit : Nat := 24
abbrev m_X3_makeRounds : Nat := 25
abbrev m_X3_waits : Nat := 26
abbrev m_X3_someWait : Nat := 27
abbrev m_X3_route : Nat := 28
abbrev m_X3_countWay : Nat := 29
abbrev m_X3_placeOutside : Nat := 30
abbrev m_X3_findEnd : Nat := 31
abbrev m_X3_isGoal : Nat := 32
abbrev m_X3_offerAround : Nat := 33
abbrev m_X3_entryCost : Nat := 34
abbrev m_X3_traceBack : Nat := 35
abbrev m_X3_placeBefore : Nat := 36
abbrev m_X3_tearUp : Nat := 37
abbrev m_X3_dropRoute : Nat := 38
abbrev m_X3_layWay : Nat := 39
abbrev m_X3_standingAt : Nat := 40
abbrev m_X3_clashingPlace : Nat := 41
abbrev m_X3_hasClash : Nat := 42
abbrev m_X3_openNet : Nat := 43
abbrev m_X3_whyOpen : Nat := 44
abbrev m_X4_init : Nat := 45
abbrev m_X4_clear : Nat := 46
abbrev m_X4_add : Nat := 47
abbrev m_X4_mark : Nat := 48
abbrev m_X4_drop : Nat := 49
abbrev m_X4_clashing : Nat := 50
abbrev m_X5_init : Nat := 51
abbrev m_X5_rule : Nat := 52
abbrev m_X5_net : Nat := 53
abbrev m_X5_pin : Nat := 54
abbrev m_X5_access : Nat := 55
abbrev m_X5_bar : Nat := 56
abbrev m_X5_shield : Nat := 57
abbrev m_X5_run : Nat := 58
abbrev m_X5_piece : Nat := 59
abbrev m_X5_chosen : Nat := 60
abbrev m_X5_open : Nat := 61
abbrev m_X5_joined : Nat := 62
abbrev m_X5_broken : Nat := 63
abbrev m_X5_history : Nat := 64
abbrev m_X5_count : Nat := 65
abbrev m_X5_rulesOf : Nat := 66
abbrev m_X5_needLayer : Nat := 67
abbrev m_X5_needPlace : Nat := 68
abbrev m_X5_needNet : Nat := 69
abbrev m_X5_needPin : Nat := 70
abbrev m_X5_needWhat : Nat := 71
abbrev m_X5_needNotBelowZero : Nat := 72
abbrev m_X5_needRun : Nat := 73
abbrev m_X5_isIn : Nat := 74
abbrev m_X6_init : Nat := 75
abbrev m_X6_thrown : Nat := 76
abbrev m_X6_clip : Nat := 77
abbrev m_X6_isIn : Nat := 78
abbrev m_X6_refuses : Nat := 79
abbrev m_X6_all : Nat := 80
abbrev m_X6_placeOf : Nat := 81
abbrev m_X6_layerOf : Nat := 82
abbrev m_X6_xOf : Nat := 83
abbrev m_X6_yOf : Nat := 84
abbrev m_X6_rule : Nat := 85
abbrev m_X6_net : Nat := 86
abbrev m_X6_isNet : Nat := 87
abbrev m_X6_isPin : Nat := 88
abbrev m_X6_pin : Nat := 89
abbrev m_X6_access : Nat := 90
abbrev m_X6_bar : Nat := 91
abbrev m_X6_shield : Nat := 92
abbrev m_X6_apart : Nat := 93
abbrev m_X6_clashes : Nat := 94
abbrev m_X6_placeOfPin : Nat := 95
abbrev m_X6_mayBe : Nat := 96
abbrev m_X6_pick : Nat := 97
abbrev m_X6_mark : Nat := 98
abbrev m_X6_markAll : Nat := 99
abbrev m_X6_beside : Nat := 100
abbrev m_X6_stepCost : Nat := 101
abbrev m_X6_isOpen : Nat := 102
abbrev m_X6_extra : Nat := 103
abbrev m_X6_lower : Nat := 104
abbrev m_X6_goal : Nat := 105
abbrev m_X6_isDone : Nat := 106
abbrev m_X6_backFrom : Nat := 107
abbrev m_X6_tearAt : Nat := 108
abbrev m_X6_take : Nat := 109
abbrev m_X6_dropRoute : Nat := 110
abbrev m_X6_routeNet : Nat := 111
abbrev m_X6_run : Nat := 112
abbrev m_X6_isLeft : Nat := 113
abbrev m_X6_stands : Nat := 114
abbrev m_X6_piece : Nat := 115
abbrev m_X6_chosen : Nat := 116
abbrev m_X6_open : Nat := 117
abbrev m_X6_joined : Nat := 118
abbrev m_X6_findStanding : Nat := 119
abbrev m_X6_isBroken : Nat := 120
abbrev m_X6_broken : Nat := 121
abbrev m_X6_history : Nat := 122
abbrev m_X6_count : Nat := 123
abbrev m_L_cell : Nat := 124
abbrev m_L_rule : Nat := 125
abbrev m_L_net : Nat := 126
abbrev m_L_pin : Nat := 127
abbrev m_L_access : Nat := 128
abbrev m_L_bar : Nat := 129
abbrev m_L_shield : Nat := 130
abbrev m_L_run : Nat := 131
abbrev m_L_piece : Nat := 132
abbrev m_L_chosen : Nat := 133
abbrev m_L_open : Nat := 134
abbrev m_L_joined : Nat := 135
abbrev m_L_broken : Nat := 136
abbrev m_L_history : Nat := 137
abbrev m_L_count : Nat := 138
abbrev m_L_law : Nat := 139
/-- name, bytes, answer, the method, its table, frames, locals -/
abbrev pgR : Type := MethodName × ByteArray × Option FieldType × pmM × List (Nat × Nat × Nat × Nat) × Nat × Nat
def pgJ6_bitCount_0f7a4 : pgR := (yJ6_bitCount_0f7a4, cJ6_bitCount_0f7a4, (some .int), (pcJ6_bitCount_0f7a4, 1, [], 0), [], 1, 23)
def pgJ7_fill_53178 : pgR := (yJ7_fill_53178, cJ7_fill_53178, none, (pcJ7_fill_53178, 4, [], 0), [], 1, 23)
def pgX0_init : pgR := (yX0_init, cX0_init, none, (pcX0_init, 1, [], 0), [], 1, 23)
def pgX0_addNet : pgR := (yX0_addNet, cX0_addNet, (some .int), (pcX0_addNet, 1, [], 0), [], 1, 23)
def pgX0_addPin : pgR := (yX0_addPin, cX0_addPin, (some .int), (pcX0_addPin, 2, [], 0), [], 1, 23)
def pgX0_accessPlace : pgR := (yX0_accessPlace, cX0_accessPlace, (some .int), (pcX0_accessPlace, 3, [], 0), [], 1, 23)
def pgX0_hasAccess : pgR := (yX0_hasAccess, cX0_hasAccess, (some .boolean), (pcX0_hasAccess, 4, [], 0), [], 2, 45)
def pgX0_addAccess : pgR := (yX0_addAccess, cX0_addAccess, none, (pcX0_addAccess, 3, [], 0), [], 1, 23)
def pgX1_init : pgR := (yX1_init, cX1_init, none, (pcX1_init, 2, [], 1), [], 1, 23)
def pgX1_clear : pgR := (yX1_clear, cX1_clear, none, (pcX1_clear, 1, [], 1), [], 2, 46)
def pgX1_offer : pgR := (yX1_offer, cX1_offer, none, (pcX1_offer, 4, [], 1), [], 2, 45)
def pgX1_take : pgR := (yX1_take, cX1_take, (some .int), (pcX1_take, 2, [], 1), [], 3, 68)
def pgX1_sink : pgR := (yX1_sink, cX1_sink, none, (pcX1_sink, 4, [], 1), [], 2, 45)
def pgX1_isBefore : pgR := (yX1_isBefore, cX1_isBefore, (some .boolean), (pcX1_isBefore, 3, [], 1), [], 1, 23)
def pgX1_put : pgR := (yX1_put, cX1_put, none, (pcX1_put, 3, [], 1), [], 1, 23)
def pgX2_init : pgR := (yX2_init, cX2_init, none, (pcX2_init, 4, [], 2), [], 2, 47)
def pgX2_numberPlaces : pgR := (yX2_numberPlaces, cX2_numberPlaces, none, (pcX2_numberPlaces, 5, [], 2), [], 1, 23)
def pgX2_placeAt : pgR := (yX2_placeAt, cX2_placeAt, (some .int), (pcX2_placeAt, 4, [], 2), [], 1, 23)
def pgX2_close : pgR := (yX2_close, cX2_close, (some .boolean), (pcX2_close, 2, [], 2), [], 1, 23)
def pgX2_beside : pgR := (yX2_beside, cX2_beside, (some .int), (pcX2_beside, 3, [], 2), [], 1, 23)
def pgX2_stepCost : pgR := (yX2_stepCost, cX2_stepCost, (some .int), (pcX2_stepCost, 6, [], 2), [], 1, 23)
def pgX3_init : pgR := (yX3_init, cX3_init, none, (pcX3_init, 3, [], 3), [], 2, 44)
def pgX3_begin : pgR := (yX3_begin, cX3_begin, none, (pcX3_begin, 2, [], 3), [], 5, 122)
def pgX3_choosePlaces : pgR := (yX3_choosePlaces, cX3_choosePlaces, none, (pcX3_choosePlaces, 3, [], 3), [], 4, 100)
def pgX3_firstFit : pgR := (yX3_firstFit, cX3_firstFit, (some .int), (pcX3_firstFit, 5, [], 3), [], 2, 48)
def pgX3_makeRounds : pgR := (yX3_makeRounds, cX3_makeRounds, none, (pcX3_makeRounds, 4, [], 3), [], 6, 147)
def pgX3_waits : pgR := (yX3_waits, cX3_waits, (some .boolean), (pcX3_waits, 2, [], 3), [], 2, 44)
def pgX3_someWait : pgR := (yX3_someWait, cX3_someWait, (some .boolean), (pcX3_someWait, 1, [], 3), [], 2, 43)
def pgX3_route : pgR := (yX3_route, cX3_route, none, (pcX3_route, 6, [], 3), [], 5, 122)
def pgX3_countWay : pgR := (yX3_countWay, cX3_countWay, none, (pcX3_countWay, 2, [], 3), [], 1, 23)
def pgX3_placeOutside : pgR := (yX3_placeOutside, cX3_placeOutside, (some .int), (pcX3_placeOutside, 4, [], 3), [], 2, 45)
def pgX3_findEnd : pgR := (yX3_findEnd, cX3_findEnd, (some .int), (pcX3_findEnd, 5, [], 3), [], 4, 98)
def pgX3_isGoal : pgR := (yX3_isGoal, cX3_isGoal, (some .boolean), (pcX3_isGoal, 3, [], 3), [], 2, 44)
def pgX3_offerAround : pgR := (yX3_offerAround, cX3_offerAround, none, (pcX3_offerAround, 8, [], 3), [], 3, 71)
def pgX3_entryCost : pgR := (yX3_entryCost, cX3_entryCost, (some .int), (pcX3_entryCost, 4, [], 3), [], 2, 48)
def pgX3_traceBack : pgR := (yX3_traceBack, cX3_traceBack, none, (pcX3_traceBack, 5, [], 3), [], 4, 97)
def pgX3_placeBefore : pgR := (yX3_placeBefore, cX3_placeBefore, (some .int), (pcX3_placeBefore, 7, [], 3), [], 3, 71)
def pgX3_tearUp : pgR := (yX3_tearUp, cX3_tearUp, none, (pcX3_tearUp, 5, [], 3), [], 3, 68)
def pgX3_dropRoute : pgR := (yX3_dropRoute, cX3_dropRoute, none, (pcX3_dropRoute, 3, [], 3), [], 2, 46)
def pgX3_layWay : pgR := (yX3_layWay, cX3_layWay, none, (pcX3_layWay, 3, [], 3), [], 4, 100)
def pgX3_standingAt : pgR := (yX3_standingAt, cX3_standingAt, (some .int), (pcX3_standingAt, 5, [], 3), [], 2, 44)
def pgX3_clashingPlace : pgR := (yX3_clashingPlace, cX3_clashingPlace, (some .int), (pcX3_clashingPlace, 4, [], 3), [], 3, 71)
def pgX3_hasClash : pgR := (yX3_hasClash, cX3_hasClash, (some .boolean), (pcX3_hasClash, 4, [], 3), [], 2, 48)
def pgX3_openNet : pgR := (yX3_openNet, cX3_openNet, (some .int), (pcX3_openNet, 4, [], 3), [], 2, 44)
def pgX3_whyOpen : pgR := (yX3_whyOpen, cX3_whyOpen, (some .int), (pcX3_whyOpen, 2, [], 3), [], 2, 44)
def pgX4_init : pgR := (yX4_init, cX4_init, none, (pcX4_init, 2, [], 4), [], 1, 23)
def pgX4_clear : pgR := (yX4_clear, cX4_clear, none, (pcX4_clear, 1, [], 4), [], 2, 46)
def pgX4_add : pgR := (yX4_add, cX4_add, none, (pcX4_add, 4, [], 4), [], 3, 77)
def pgX4_mark : pgR := (yX4_mark, cX4_mark, none, (pcX4_mark, 12, [], 4), [], 2, 46)
def pgX4_drop : pgR := (yX4_drop, cX4_drop, none, (pcX4_drop, 4, [], 4), [], 1, 23)
def pgX4_clashing : pgR := (yX4_clashing, cX4_clashing, (some .int), (pcX4_clashing, 6, [], 4), [], 1, 23)
def pgX5_init : pgR := (yX5_init, cX5_init, none, (pcX5_init, 9, [], 5), [], 3, 70)
def pgX5_rule : pgR := (yX5_rule, cX5_rule, (some .boolean), (pcX5_rule, 10, [], 5), [], 7, 111)
def pgX5_net : pgR := (yX5_net, cX5_net, (some .int), (pcX5_net, 1, [], 5), [], 6, 90)
def pgX5_pin : pgR := (yX5_pin, cX5_pin, (some .int), (pcX5_pin, 2, [], 5), [], 7, 111)
def pgX5_access : pgR := (yX5_access, cX5_access, (some .boolean), (pcX5_access, 8, [], 5), [], 8, 136)
def pgX5_bar : pgR := (yX5_bar, cX5_bar, (some .boolean), (pcX5_bar, 13, [], 5), [], 7, 111)
def pgX5_shield : pgR := (yX5_shield, cX5_shield, (some .boolean), (pcX5_shield, 2, [], 5), [], 7, 111)
def pgX5_run : pgR := (yX5_run, cX5_run, (some .int), (pcX5_run, 2, [], 5), [], 7, 170)
def pgX5_piece : pgR := (yX5_piece, cX5_piece, (some .int), (pcX5_piece, 5, [], 5), [], 7, 112)
def pgX5_chosen : pgR := (yX5_chosen, cX5_chosen, (some .int), (pcX5_chosen, 2, [], 5), [], 7, 111)
def pgX5_open : pgR := (yX5_open, cX5_open, (some .int), (pcX5_open, 4, [], 5), [], 7, 112)
def pgX5_joined : pgR := (yX5_joined, cX5_joined, (some .boolean), (pcX5_joined, 2, [], 5), [], 7, 111)
def pgX5_broken : pgR := (yX5_broken, cX5_broken, (some .int), (pcX5_broken, 2, [], 5), [], 7, 111)
def pgX5_history : pgR := (yX5_history, cX5_history, (some .int), (pcX5_history, 6, [], 5), [], 8, 136)
def pgX5_count : pgR := (yX5_count, cX5_count, (some .int), (pcX5_count, 2, [], 5), [], 7, 112)
def pgX5_rulesOf : pgR := (yX5_rulesOf, cX5_rulesOf, (some (.array .int)), (pcX5_rulesOf, 2, [], 5), [], 6, 90)
def pgX5_needLayer : pgR := (yX5_needLayer, cX5_needLayer, none, (pcX5_needLayer, 2, [], 5), [], 6, 90)
def pgX5_needPlace : pgR := (yX5_needPlace, cX5_needPlace, none, (pcX5_needPlace, 6, [], 5), [], 7, 111)
def pgX5_needNet : pgR := (yX5_needNet, cX5_needNet, none, (pcX5_needNet, 2, [], 5), [], 6, 90)
def pgX5_needPin : pgR := (yX5_needPin, cX5_needPin, none, (pcX5_needPin, 2, [], 5), [], 6, 90)
def pgX5_needWhat : pgR := (yX5_needWhat, cX5_needWhat, none, (pcX5_needWhat, 3, [], 5), [], 6, 90)
def pgX5_needNotBelowZero : pgR := (yX5_needNotBelowZero, cX5_needNotBelowZero, none, (pcX5_needNotBelowZero, 2, [], 5), [], 6, 90)
def pgX5_needRun : pgR := (yX5_needRun, cX5_needRun, none, (pcX5_needRun, 1, [], 5), [], 6, 90)
def pgX5_isIn : pgR := (yX5_isIn, cX5_isIn, (some .boolean), (pcX5_isIn, 2, [], 5), [], 1, 23)
def pgX6_init : pgR := (yX6_init, cX6_init, none, (pcX6_init, 6, [], 6), [], 2, 45)
def pgX6_thrown : pgR := (yX6_thrown, cX6_thrown, (some .int), (pcX6_thrown, 1, [], 6), [], 1, 23)
def pgX6_clip : pgR := (yX6_clip, cX6_clip, (some .int), (pcX6_clip, 3, [], 6), [], 1, 23)
def pgX6_isIn : pgR := (yX6_isIn, cX6_isIn, (some .boolean), (pcX6_isIn, 6, [], 6), [], 1, 23)
def pgX6_refuses : pgR := (yX6_refuses, cX6_refuses, (some .boolean), (pcX6_refuses, 2, [], 6), [], 1, 23)
def pgX6_all : pgR := (yX6_all, cX6_all, (some .int), (pcX6_all, 1, [], 6), [], 1, 23)
def pgX6_placeOf : pgR := (yX6_placeOf, cX6_placeOf, (some .int), (pcX6_placeOf, 7, [], 6), [], 2, 48)
def pgX6_layerOf : pgR := (yX6_layerOf, cX6_layerOf, (some .int), (pcX6_layerOf, 2, [], 6), [], 1, 23)
def pgX6_xOf : pgR := (yX6_xOf, cX6_xOf, (some .int), (pcX6_xOf, 2, [], 6), [], 1, 23)
def pgX6_yOf : pgR := (yX6_yOf, cX6_yOf, (some .int), (pcX6_yOf, 2, [], 6), [], 1, 23)
def pgX6_rule : pgR := (yX6_rule, cX6_rule, (some .boolean), (pcX6_rule, 7, [], 6), [], 2, 48)
def pgX6_net : pgR := (yX6_net, cX6_net, (some .int), (pcX6_net, 1, [], 6), [], 2, 44)
def pgX6_isNet : pgR := (yX6_isNet, cX6_isNet, (some .boolean), (pcX6_isNet, 2, [], 6), [], 1, 23)
def pgX6_isPin : pgR := (yX6_isPin, cX6_isPin, (some .boolean), (pcX6_isPin, 2, [], 6), [], 1, 23)
def pgX6_pin : pgR := (yX6_pin, cX6_pin, (some .int), (pcX6_pin, 2, [], 6), [], 2, 44)
def pgX6_access : pgR := (yX6_access, cX6_access, (some .boolean), (pcX6_access, 9, [], 6), [], 3, 74)
def pgX6_bar : pgR := (yX6_bar, cX6_bar, (some .boolean), (pcX6_bar, 14, [], 6), [], 2, 48)
def pgX6_shield : pgR := (yX6_shield, cX6_shield, (some .boolean), (pcX6_shield, 2, [], 6), [], 2, 44)
def pgX6_apart : pgR := (yX6_apart, cX6_apart, (some .int), (pcX6_apart, 2, [], 6), [], 1, 23)
def pgX6_clashes : pgR := (yX6_clashes, cX6_clashes, (some .boolean), (pcX6_clashes, 6, [], 6), [], 2, 44)
def pgX6_placeOfPin : pgR := (yX6_placeOfPin, cX6_placeOfPin, (some .int), (pcX6_placeOfPin, 2, [], 6), [], 1, 23)
def pgX6_mayBe : pgR := (yX6_mayBe, cX6_mayBe, (some .boolean), (pcX6_mayBe, 6, [], 6), [], 3, 69)
def pgX6_pick : pgR := (yX6_pick, cX6_pick, none, (pcX6_pick, 3, [], 6), [], 4, 94)
def pgX6_mark : pgR := (yX6_mark, cX6_mark, none, (pcX6_mark, 9, [], 6), [], 3, 74)
def pgX6_markAll : pgR := (yX6_markAll, cX6_markAll, none, (pcX6_markAll, 4, [], 6), [], 4, 102)
def pgX6_beside : pgR := (yX6_beside, cX6_beside, (some .int), (pcX6_beside, 6, [], 6), [], 3, 74)
def pgX6_stepCost : pgR := (yX6_stepCost, cX6_stepCost, (some .int), (pcX6_stepCost, 5, [], 6), [], 2, 44)
def pgX6_isOpen : pgR := (yX6_isOpen, cX6_isOpen, (some .boolean), (pcX6_isOpen, 3, [], 6), [], 1, 23)
def pgX6_extra : pgR := (yX6_extra, cX6_extra, (some .int), (pcX6_extra, 2, [], 6), [], 1, 23)
def pgX6_lower : pgR := (yX6_lower, cX6_lower, none, (pcX6_lower, 6, [], 6), [], 4, 99)
def pgX6_goal : pgR := (yX6_goal, cX6_goal, (some .int), (pcX6_goal, 6, [], 6), [], 2, 44)
def pgX6_isDone : pgR := (yX6_isDone, cX6_isDone, (some .boolean), (pcX6_isDone, 4, [], 6), [], 2, 44)
def pgX6_backFrom : pgR := (yX6_backFrom, cX6_backFrom, (some .int), (pcX6_backFrom, 6, [], 6), [], 4, 99)
def pgX6_tearAt : pgR := (yX6_tearAt, cX6_tearAt, none, (pcX6_tearAt, 5, [], 6), [], 3, 69)
def pgX6_take : pgR := (yX6_take, cX6_take, none, (pcX6_take, 6, [], 6), [], 5, 124)
def pgX6_dropRoute : pgR := (yX6_dropRoute, cX6_dropRoute, none, (pcX6_dropRoute, 3, [], 6), [], 2, 43)
def pgX6_routeNet : pgR := (yX6_routeNet, cX6_routeNet, none, (pcX6_routeNet, 4, [], 6), [], 6, 149)
def pgX6_run : pgR := (yX6_run, cX6_run, (some .int), (pcX6_run, 5, [], 6), [], 7, 172)
def pgX6_isLeft : pgR := (yX6_isLeft, cX6_isLeft, (some .boolean), (pcX6_isLeft, 3, [], 6), [], 1, 23)
def pgX6_stands : pgR := (yX6_stands, cX6_stands, (some .boolean), (pcX6_stands, 5, [], 6), [], 2, 44)
def pgX6_piece : pgR := (yX6_piece, cX6_piece, (some .int), (pcX6_piece, 6, [], 6), [], 3, 68)
def pgX6_chosen : pgR := (yX6_chosen, cX6_chosen, (some .int), (pcX6_chosen, 2, [], 6), [], 2, 44)
def pgX6_open : pgR := (yX6_open, cX6_open, (some .int), (pcX6_open, 5, [], 6), [], 2, 48)
def pgX6_joined : pgR := (yX6_joined, cX6_joined, (some .boolean), (pcX6_joined, 2, [], 6), [], 2, 44)
def pgX6_findStanding : pgR := (yX6_findStanding, cX6_findStanding, none, (pcX6_findStanding, 2, [], 6), [], 2, 44)
def pgX6_isBroken : pgR := (yX6_isBroken, cX6_isBroken, (some .boolean), (pcX6_isBroken, 7, [], 6), [], 3, 74)
def pgX6_broken : pgR := (yX6_broken, cX6_broken, (some .int), (pcX6_broken, 4, [], 6), [], 4, 100)
def pgX6_history : pgR := (yX6_history, cX6_history, (some .int), (pcX6_history, 7, [], 6), [], 3, 74)
def pgX6_count : pgR := (yX6_count, cX6_count, (some .int), (pcX6_count, 4, [], 6), [], 2, 48)
def pgL_cell : pgR := (yL_cell, cL_cell, (some .int), (pcL_cell, 2, [], 0), [], 1, 23)
def pgL_rule : pgR := (yL_rule, cL_rule, (some .int), (pcL_rule, 7, [(0, 19, 22, 0), (0, 19, 26, 1)], 0), [(0, 19, 22, 13), (0, 19, 26, 15)], 8, 140)
def pgL_net : pgR := (yL_net, cL_net, (some .int), (pcL_net, 3, [(0, 8, 11, 2)], 0), [(0, 8, 11, 21)], 7, 110)
def pgL_pin : pgR := (yL_pin, cL_pin, (some .int), (pcL_pin, 4, [(0, 9, 12, 0), (0, 9, 15, 2)], 0), [(0, 9, 12, 13), (0, 9, 15, 21)], 8, 132)
def pgL_access : pgR := (yL_access, cL_access, (some .int), (pcL_access, 9, [(0, 21, 24, 0), (0, 21, 28, 2)], 0), [(0, 21, 24, 13), (0, 21, 28, 21)], 9, 163)
def pgL_bar : pgR := (yL_bar, cL_bar, (some .int), (pcL_bar, 12, [(0, 24, 27, 0), (0, 24, 31, 1)], 0), [(0, 24, 27, 13), (0, 24, 31, 15)], 8, 143)
def pgL_shield : pgR := (yL_shield, cL_shield, (some .int), (pcL_shield, 4, [(0, 16, 19, 0)], 0), [(0, 16, 19, 13)], 8, 132)
def pgL_run : pgR := (yL_run, cL_run, (some .int), (pcL_run, 4, [(0, 9, 12, 1)], 0), [(0, 9, 12, 15)], 8, 191)
def pgL_piece : pgR := (yL_piece, cL_piece, (some .int), (pcL_piece, 6, [(0, 12, 15, 0), (0, 12, 19, 2)], 0), [(0, 12, 15, 13), (0, 12, 19, 21)], 8, 136)
def pgL_chosen : pgR := (yL_chosen, cL_chosen, (some .int), (pcL_chosen, 4, [(0, 9, 12, 0), (0, 9, 15, 2)], 0), [(0, 9, 12, 13), (0, 9, 15, 21)], 8, 132)
def pgL_open : pgR := (yL_open, cL_open, (some .int), (pcL_open, 5, [(0, 10, 13, 0), (0, 10, 17, 2)], 0), [(0, 10, 13, 13), (0, 10, 17, 21)], 8, 135)
def pgL_joined : pgR := (yL_joined, cL_joined, (some .int), (pcL_joined, 4, [(0, 16, 19, 0), (0, 16, 22, 2)], 0), [(0, 16, 19, 13), (0, 16, 22, 21)], 8, 132)
def pgL_broken : pgR := (yL_broken, cL_broken, (some .int), (pcL_broken, 4, [(0, 9, 12, 0), (0, 9, 15, 2)], 0), [(0, 9, 12, 13), (0, 9, 15, 21)], 8, 132)
def pgL_history : pgR := (yL_history, cL_history, (some .int), (pcL_history, 8, [(0, 13, 16, 0), (0, 13, 20, 2)], 0), [(0, 13, 16, 13), (0, 13, 20, 21)], 9, 161)
def pgL_count : pgR := (yL_count, cL_count, (some .int), (pcL_count, 4, [(0, 9, 12, 0)], 0), [(0, 9, 12, 13)], 8, 133)
def pgL_law : pgR := (yL_law, cL_law, (some .boolean), (pcL_law, 7, [], 0), [], 12, 466)
def pgL : List pgR := [pgJ6_bitCount_0f7a4, pgJ7_fill_53178, pgX0_init, pgX0_addNet, pgX0_addPin, pgX0_accessPlace, pgX0_hasAccess, pgX0_addAccess, pgX1_init, pgX1_clear, pgX1_offer, pgX1_take, pgX1_sink, pgX1_isBefore, pgX1_put, pgX2_init, pgX2_numberPlaces, pgX2_placeAt, pgX2_close, pgX2_beside, pgX2_stepCost, pgX3_init, pgX3_begin, pgX3_choosePlaces, pgX3_firstFit, pgX3_makeRounds, pgX3_waits, pgX3_someWait, pgX3_route, pgX3_countWay, pgX3_placeOutside, pgX3_findEnd, pgX3_isGoal, pgX3_offerAround, pgX3_entryCost, pgX3_traceBack, pgX3_placeBefore, pgX3_tearUp, pgX3_dropRoute, pgX3_layWay, pgX3_standingAt, pgX3_clashingPlace, pgX3_hasClash, pgX3_openNet, pgX3_whyOpen, pgX4_init, pgX4_clear, pgX4_add, pgX4_mark, pgX4_drop, pgX4_clashing, pgX5_init, pgX5_rule, pgX5_net, pgX5_pin, pgX5_access, pgX5_bar, pgX5_shield, pgX5_run, pgX5_piece, pgX5_chosen, pgX5_open, pgX5_joined, pgX5_broken, pgX5_history, pgX5_count, pgX5_rulesOf, pgX5_needLayer, pgX5_needPlace, pgX5_needNet, pgX5_needPin, pgX5_needWhat, pgX5_needNotBelowZero, pgX5_needRun, pgX5_isIn, pgX6_init, pgX6_thrown, pgX6_clip, pgX6_isIn, pgX6_refuses, pgX6_all, pgX6_placeOf, pgX6_layerOf, pgX6_xOf, pgX6_yOf, pgX6_rule, pgX6_net, pgX6_isNet, pgX6_isPin, pgX6_pin, pgX6_access, pgX6_bar, pgX6_shield, pgX6_apart, pgX6_clashes, pgX6_placeOfPin, pgX6_mayBe, pgX6_pick, pgX6_mark, pgX6_markAll, pgX6_beside, pgX6_stepCost, pgX6_isOpen, pgX6_extra, pgX6_lower, pgX6_goal, pgX6_isDone, pgX6_backFrom, pgX6_tearAt, pgX6_take, pgX6_dropRoute, pgX6_routeNet, pgX6_run, pgX6_isLeft, pgX6_stands, pgX6_piece, pgX6_chosen, pgX6_open, pgX6_joined, pgX6_findStanding, pgX6_isBroken, pgX6_broken, pgX6_history, pgX6_count, pgL_cell, pgL_rule, pgL_net, pgL_pin, pgL_access, pgL_bar, pgL_shield, pgL_run, pgL_piece, pgL_chosen, pgL_open, pgL_joined, pgL_broken, pgL_history, pgL_count, pgL_law]
def pgSR : List (String × Nat × String) := [("TrackRoutes", 68, "the rule's number is out of its range"), ("TrackRoutes", 79, "there are as many nets as there can be"), ("TrackRoutes", 92, "there are as many pins as there can be"), ("TrackRoutes", 109, "the pin has as many access places as there can be"), ("TrackRoutes", 129, "these are no places from the lesser to the greater"), ("TrackRoutes", 141, "rounds are 0 to 8"), ("TrackRoutes", 168, "the net does not stand at so many places"), ("TrackRoutes", 222, "there is no such kind of rule"), ("TrackRoutes", 227, "there is no such layer"), ("TrackRoutes", 229, "there is no such place"), ("TrackRoutes", 231, "there is no such net"), ("TrackRoutes", 233, "there is no such pin"), ("TrackRoutes", 235, "there is no such what"), ("TrackRoutes", 237, "k is below 0"), ("TrackRoutes", 239, "there was no run, or something was changed since")]
end
section
def phJ6_bitCount_0f7a4 : List (Nat × List Nat) := [(4, [588]), (11, [589]), (18, [589]), (29, [590])]
def phJ7_fill_53178 : List (Nat × List Nat) := []
def phX0_init : List (Nat × List Nat) := [(1, [179, 84, 85]), (7, [172]), (9, [188]), (15, [172]), (17, [190]), (23, [172]), (25, [192]), (32, [172]), (34, [195])]
def phX0_addNet : List (Nat × List Nat) := [(2, [180]), (7, [180]), (11, [180])]
def phX0_addPin : List (Nat × List Nat) := [(1, [188]), (5, [185]), (11, [190]), (22, [185]), (27, [185]), (31, [185])]
def phX0_accessPlace : List (Nat × List Nat) := [(1, [195])]
def phX0_hasAccess : List (Nat × List Nat) := [(4, [192]), (15, [507, 66, 504, 505, 506])]
def phX0_addAccess : List (Nat × List Nat) := [(1, [195]), (8, [192]), (17, [192])]
def phX1_init : List (Nat × List Nat) := [(1, [242, 84, 85]), (6, [172]), (8, [243]), (13, [172]), (15, [245]), (20, [172]), (22, [246])]
def phX1_clear : List (Nat × List Nat) := [(1, [243]), (4, [611]), (6, [107, 65, 612, 106]), (10, [246]), (14, [107, 65, 612, 106]), (19, [247])]
def phX1_offer : List (Nat × List Nat) := [(2, [243]), (12, [246]), (22, [247]), (29, [246]), (37, [245]), (47, [247]), (55, [247]), (60, [247]), (64, [243]), (77, [245]), (86, [620, 69, 617, 619, 15]), (94, [245]), (104, [624, 69, 621, 623, 16]), (119, [624, 69, 621, 623, 16])]
def phX1_take : List (Nat × List Nat) := [(1, [247]), (10, [245]), (17, [246]), (25, [247]), (30, [247]), (34, [247]), (42, [245]), (46, [247]), (50, [632, 69, 629, 631, 17])]
def phX1_sink : List (Nat × List Nat) := [(8, [247]), (24, [247]), (32, [245]), (40, [245]), (45, [620, 69, 617, 619, 15]), (56, [245]), (62, [620, 69, 617, 619, 15]), (73, [245]), (79, [624, 69, 621, 623, 16]), (90, [624, 69, 621, 623, 16])]
def phX1_isBefore : List (Nat × List Nat) := [(1, [243]), (7, [243]), (16, [243]), (22, [243])]
def phX1_put : List (Nat × List Nat) := [(1, [245]), (8, [246])]
def phX2_init : List (Nat × List Nat) := [(1, [104, 84, 85]), (6, [172]), (8, [134]), (13, [172]), (15, [137]), (20, [172]), (22, [139]), (27, [112]), (32, [114]), (37, [117]), (44, [120]), (50, [120]), (54, [123]), (59, [123]), (62, [172]), (64, [124]), (69, [123]), (72, [172]), (74, [128]), (79, [123]), (82, [172]), (84, [131]), (89, [123]), (92, [173]), (94, [141]), (98, [137]), (102, [107, 65, 105, 106]), (106, [139]), (110, [107, 65, 105, 106]), (114, [111, 64, 108, 110, 0])]
def phX2_numberPlaces : List (Nat × List Nat) := [(6, [112]), (16, [117]), (28, [114]), (35, [124]), (42, [128]), (50, [131])]
def phX2_placeAt : List (Nat × List Nat) := [(2, [120]), (8, [114])]
def phX2_close : List (Nat × List Nat) := [(1, [141]), (12, [141]), (20, [143]), (25, [143])]
def phX2_beside : List (Nat × List Nat) := [(41, [128]), (58, [128]), (64, [114]), (81, [131]), (91, [114]), (101, [131]), (107, [117]), (117, [114]), (127, [124]), (137, [120]), (147, [124]), (153, [112]), (163, [120])]
def phX2_stepCost : List (Nat × List Nat) := [(1, [124]), (8, [124]), (18, [139]), (23, [124]), (28, [653, 87, 63, 88]), (34, [131]), (40, [131]), (81, [137])]
def phX3_init : List (Nat × List Nat) := [(1, [216, 84, 85]), (7, [172]), (9, [262]), (14, [257]), (19, [258]), (23, [217, 218, 68]), (28, [221, 68, 219, 220]), (31, [259]), (35, [217, 218, 68]), (40, [221, 68, 219, 220]), (43, [260]), (47, [237, 238, 69]), (52, [122]), (55, [241, 69, 239, 240]), (58, [261]), (63, [122]), (66, [172]), (68, [264]), (73, [122]), (76, [172]), (78, [266]), (83, [122]), (86, [172]), (88, [268])]
def phX3_begin : List (Nat × List Nat) := [(1, [259]), (4, [549, 68, 546, 547, 548]), (8, [260]), (11, [549, 68, 546, 547, 548]), (15, [264]), (19, [107, 65, 551, 106]), (23, [266]), (27, [107, 65, 551, 106]), (32, [270]), (37, [271]), (42, [273]), (47, [274]), (52, [276]), (57, [278]), (61, [555, 67, 552, 554, 7]), (68, [258]), (71, [181]), (78, [258]), (81, [191]), (91, [270]), (95, [533, 62, 576, 532]), (103, [271]), (110, [271])]
def phX3_choosePlaces : List (Nat × List Nat) := [(4, [258]), (7, [186]), (14, [258]), (17, [189]), (24, [262]), (31, [559, 67, 556, 558, 8]), (36, [262]), (47, [270]), (54, [270]), (61, [259]), (66, [258]), (71, [262]), (76, [507, 66, 560, 505, 506]), (79, [568, 68, 565, 566, 567])]
def phX3_firstFit : List (Nat × List Nat) := [(4, [258]), (7, [193]), (16, [258]), (21, [507, 66, 560, 505, 506]), (27, [257]), (30, [142]), (40, [259]), (47, [258]), (50, [183]), (53, [564, 68, 561, 562, 563])]
def phX3_makeRounds : List (Nat × List Nat) := [(8, [584, 67, 581, 583, 10]), (16, [274]), (21, [274]), (28, [258]), (31, [181]), (39, [594, 67, 591, 593, 11]), (47, [598, 67, 595, 597, 12])]
def phX3_waits : List (Nat × List Nat) := [(1, [270]), (5, [271]), (10, [533, 62, 576, 532])]
def phX3_someWait : List (Nat × List Nat) := [(1, [270]), (5, [271]), (9, [587, 77, 585, 586]), (13, [258]), (16, [181])]
def phX3_route : List (Nat × List Nat) := [(2, [602, 67, 599, 601, 13]), (12, [260]), (17, [568, 68, 565, 566, 567]), (30, [602, 67, 599, 601, 13]), (40, [606, 67, 603, 605, 14]), (66, [606, 67, 603, 605, 14]), (79, [657, 67, 654, 656, 21]), (84, [273]), (91, [273]), (101, [665, 67, 662, 664, 22]), (111, [673, 67, 670, 672, 24]), (116, [677, 67, 674, 676, 25]), (122, [682, 67, 679, 681, 26]), (133, [273]), (142, [273]), (147, [271]), (154, [271])]
def phX3_countWay : List (Nat × List Nat) := [(6, [278]), (11, [278]), (19, [276]), (24, [276])]
def phX3_placeOutside : List (Nat × List Nat) := [(4, [258]), (7, [186]), (14, [258]), (17, [189]), (27, [262]), (37, [258]), (42, [262]), (47, [507, 66, 560, 505, 506]), (52, [260]), (55, [225]), (61, [533, 62, 576, 532])]
def phX3_findEnd : List (Nat × List Nat) := [(1, [261]), (4, [610, 69, 607, 608, 609]), (11, [257]), (14, [122]), (21, [260]), (24, [225]), (30, [533, 62, 576, 532]), (37, [261]), (42, [616, 69, 613, 614, 615]), (55, [257]), (58, [122]), (65, [261]), (68, [628, 69, 625, 626, 627]), (83, [636, 67, 633, 635, 18]), (97, [640, 67, 637, 639, 19])]
def phX3_isGoal : List (Nat × List Nat) := [(1, [259]), (4, [225]), (10, [260]), (13, [225]), (22, [533, 62, 576, 532])]
def phX3_offerAround : List (Nat × List Nat) := [(1, [261]), (4, [244]), (22, [257]), (28, [644, 64, 641, 642, 643]), (40, [261]), (43, [244]), (59, [648, 67, 645, 647, 20]), (71, [261]), (79, [257]), (85, [652, 64, 649, 650, 651]), (92, [616, 69, 613, 614, 615])]
def phX3_entryCost : List (Nat × List Nat) := [(1, [257]), (4, [142]), (13, [259]), (19, [258]), (22, [183]), (25, [564, 68, 561, 562, 563]), (34, [260]), (40, [258]), (43, [183]), (46, [564, 68, 561, 562, 563]), (53, [264]), (64, [264])]
def phX3_traceBack : List (Nat × List Nat) := [(2, [269]), (9, [269]), (13, [268]), (27, [268]), (31, [269]), (39, [269]), (44, [269]), (48, [261]), (51, [244]), (69, [669, 67, 666, 668, 23])]
def phX3_placeBefore : List (Nat × List Nat) := [(1, [261]), (4, [244]), (13, [648, 67, 645, 647, 20]), (30, [257]), (36, [644, 64, 641, 642, 643]), (48, [261]), (51, [244]), (58, [257]), (64, [652, 64, 649, 650, 651])]
def phX3_tearUp : List (Nat × List Nat) := [(6, [269]), (13, [260]), (18, [268]), (24, [258]), (27, [183]), (30, [564, 68, 561, 562, 563]), (41, [264]), (45, [268]), (70, [258]), (73, [181]), (81, [533, 62, 576, 532]), (89, [657, 67, 654, 656, 21]), (100, [271]), (107, [271])]
def phX3_dropRoute : List (Nat × List Nat) := [(1, [260]), (5, [661, 68, 658, 659, 660]), (12, [257]), (15, [122]), (22, [266])]
def phX3_layWay : List (Nat × List Nat) := [(4, [269]), (11, [260]), (16, [268]), (21, [568, 68, 565, 566, 567]), (29, [257]), (32, [127]), (36, [268]), (43, [257]), (46, [127]), (50, [268]), (62, [266]), (66, [268]), (72, [268]), (79, [678, 87, 63, 88])]
def phX3_standingAt : List (Nat × List Nat) := [(8, [257]), (11, [122]), (22, [259]), (25, [225]), (32, [260]), (35, [225]), (43, [533, 62, 576, 532])]
def phX3_clashingPlace : List (Nat × List Nat) := [(6, [257]), (9, [122]), (17, [754, 67, 751, 753, 30])]
def phX3_hasClash : List (Nat × List Nat) := [(1, [259]), (4, [225]), (10, [260]), (13, [225]), (24, [258]), (27, [181]), (35, [533, 62, 576, 532]), (42, [259]), (48, [258]), (51, [183]), (54, [564, 68, 561, 562, 563]), (58, [260]), (64, [258]), (67, [183]), (70, [564, 68, 561, 562, 563])]
def phX3_openNet : List (Nat × List Nat) := [(6, [258]), (9, [181]), (16, [271]), (20, [533, 62, 576, 532])]
def phX3_whyOpen : List (Nat × List Nat) := [(1, [270]), (5, [533, 62, 576, 532]), (14, [273]), (18, [533, 62, 576, 532])]
def phX4_init : List (Nat × List Nat) := [(1, [222, 84, 85]), (6, [223]), (11, [121]), (14, [172]), (16, [224]), (21, [121]), (24, [172]), (26, [226]), (31, [121]), (34, [172]), (36, [227])]
def phX4_clear : List (Nat × List Nat) := [(1, [224]), (5, [107, 65, 550, 106]), (9, [226]), (13, [107, 65, 550, 106]), (17, [227]), (21, [107, 65, 550, 106])]
def phX4_add : List (Nat × List Nat) := [(1, [223]), (4, [135]), (8, [223]), (11, [125]), (19, [224]), (32, [226]), (38, [572, 68, 569, 571, 9]), (43, [227]), (51, [572, 68, 569, 571, 9])]
def phX4_mark : List (Nat × List Nat) := [(1, [223]), (4, [125]), (13, [223]), (16, [129]), (24, [573, 90, 63, 91]), (30, [223]), (33, [115]), (39, [223]), (42, [129]), (50, [574, 87, 63, 88]), (57, [223]), (60, [132]), (68, [573, 90, 63, 91]), (74, [223]), (77, [118]), (83, [223]), (86, [132]), (94, [574, 87, 63, 88]), (123, [223]), (132, [499, 64, 575, 497, 498])]
def phX4_drop : List (Nat × List Nat) := [(10, [223]), (13, [121]), (20, [224]), (30, [226]), (40, [227])]
def phX4_clashing : List (Nat × List Nat) := [(13, [227]), (22, [226]), (28, [227])]
def phX5_init : List (Nat × List Nat) := [(1, [83, 84, 85]), (7, [86, 87, 63, 88]), (10, [89, 90, 63, 91]), (16, [92]), (20, [93, 94, 63, 95]), (23, [96, 97, 63, 98]), (30, [92]), (35, [93, 94, 63, 95]), (38, [96, 97, 63, 98]), (45, [99, 100, 64]), (55, [103, 64, 101, 102]), (58, [313]), (62, [174, 175, 66]), (66, [178, 66, 176, 177]), (69, [314]), (73, [211, 212, 67]), (78, [313]), (82, [314]), (85, [215, 67, 213, 214]), (88, [315]), (93, [316])]
def phX5_rule : List (Nat × List Nat) := [(2, [341, 62, 338, 340, 1]), (7, [413, 62, 410, 412, 3]), (28, [430]), (34, [431]), (53, [414, 75, 424, 71, 72, 73, 74, 75, 76, 84, 85, 171, 210, 236, 256, 312, 325, 343, 344, 345, 346, 347, 348, 349, 350, 351, 352, 353, 354, 355, 356, 357, 358, 359, 360, 361, 362, 363, 364, 365, 366, 367, 368, 369, 370, 371, 372, 373, 374, 375, 376, 377, 378, 380, 381, 382, 385, 386, 387, 388, 389, 390, 391, 392, 393, 394, 395, 396, 397, 398, 399, 400, 401, 402, 403, 404, 405, 406, 407, 408, 415, 416, 417, 418, 419, 420, 421, 422, 425, 426, 427, 428, 429, 442, 443, 444, 445, 446, 447, 448, 449, 452, 453, 454, 455, 456, 874, 1069, 2]), (82, [316])]
def phX5_net : List (Nat × List Nat) := [(1, [314]), (4, [182]), (12, [441, 76, 451, 71, 72, 73, 74, 75, 76, 84, 85, 171, 210, 236, 256, 312, 325, 343, 344, 345, 346, 347, 348, 349, 350, 351, 352, 353, 354, 355, 356, 357, 358, 359, 360, 361, 362, 363, 364, 365, 366, 367, 368, 369, 370, 371, 372, 373, 374, 375, 376, 377, 378, 380, 381, 382, 385, 386, 387, 388, 389, 390, 391, 392, 393, 394, 395, 396, 397, 398, 399, 400, 401, 402, 403, 404, 405, 406, 407, 408, 415, 416, 417, 418, 419, 420, 421, 422, 425, 426, 427, 428, 429, 442, 443, 444, 445, 446, 447, 448, 449, 452, 453, 454, 455, 456, 874, 1069, 2]), (24, [316]), (28, [314]), (31, [460, 66, 457, 458, 459])]
def phX5_pin : List (Nat × List Nat) := [(2, [471, 62, 468, 470, 4]), (6, [314]), (9, [187]), (17, [441, 76, 451, 71, 72, 73, 74, 75, 76, 84, 85, 171, 210, 236, 256, 312, 325, 343, 344, 345, 346, 347, 348, 349, 350, 351, 352, 353, 354, 355, 356, 357, 358, 359, 360, 361, 362, 363, 364, 365, 366, 367, 368, 369, 370, 371, 372, 373, 374, 375, 376, 377, 378, 380, 381, 382, 385, 386, 387, 388, 389, 390, 391, 392, 393, 394, 395, 396, 397, 398, 399, 400, 401, 402, 403, 404, 405, 406, 407, 408, 415, 416, 417, 418, 419, 420, 421, 422, 425, 426, 427, 428, 429, 442, 443, 444, 445, 446, 447, 448, 449, 452, 453, 454, 455, 456, 874, 1069, 2]), (29, [316]), (33, [314]), (37, [477, 66, 474, 475, 476])]
def phX5_access : List (Nat × List Nat) := [(2, [488, 62, 485, 487, 5]), (10, [493, 62, 490, 492, 6]), (14, [314]), (17, [194]), (26, [441, 76, 451, 71, 72, 73, 74, 75, 76, 84, 85, 171, 210, 236, 256, 312, 325, 343, 344, 345, 346, 347, 348, 349, 350, 351, 352, 353, 354, 355, 356, 357, 358, 359, 360, 361, 362, 363, 364, 365, 366, 367, 368, 369, 370, 371, 372, 373, 374, 375, 376, 377, 378, 380, 381, 382, 385, 386, 387, 388, 389, 390, 391, 392, 393, 394, 395, 396, 397, 398, 399, 400, 401, 402, 403, 404, 405, 406, 407, 408, 415, 416, 417, 418, 419, 420, 421, 422, 425, 426, 427, 428, 429, 442, 443, 444, 445, 446, 447, 448, 449, 452, 453, 454, 455, 456, 874, 1069, 2]), (37, [313]), (46, [499, 64, 496, 497, 498]), (52, [314]), (58, [503, 66, 500, 501, 502]), (67, [314]), (73, [511, 66, 508, 509, 510]), (78, [316])]
def phX5_bar : List (Nat × List Nat) := [(2, [341, 62, 338, 340, 1]), (21, [313]), (24, [116]), (50, [313]), (53, [119]), (61, [414, 75, 424, 71, 72, 73, 74, 75, 76, 84, 85, 171, 210, 236, 256, 312, 325, 343, 344, 345, 346, 347, 348, 349, 350, 351, 352, 353, 354, 355, 356, 357, 358, 359, 360, 361, 362, 363, 364, 365, 366, 367, 368, 369, 370, 371, 372, 373, 374, 375, 376, 377, 378, 380, 381, 382, 385, 386, 387, 388, 389, 390, 391, 392, 393, 394, 395, 396, 397, 398, 399, 400, 401, 402, 403, 404, 405, 406, 407, 408, 415, 416, 417, 418, 419, 420, 421, 422, 425, 426, 427, 428, 429, 442, 443, 444, 445, 446, 447, 448, 449, 452, 453, 454, 455, 456, 874, 1069, 2]), (102, [313]), (106, [313]), (114, [499, 64, 496, 497, 498]), (117, [523, 64, 520, 521, 522]), (142, [316])]
def phX5_shield : List (Nat × List Nat) := [(2, [471, 62, 468, 470, 4]), (7, [316]), (11, [314]), (15, [184]), (22, [184]), (26, [314]), (29, [184]), (33, [533, 62, 531, 532])]
def phX5_run : List (Nat × List Nat) := [(10, [414, 75, 424, 71, 72, 73, 74, 75, 76, 84, 85, 171, 210, 236, 256, 312, 325, 343, 344, 345, 346, 347, 348, 349, 350, 351, 352, 353, 354, 355, 356, 357, 358, 359, 360, 361, 362, 363, 364, 365, 366, 367, 368, 369, 370, 371, 372, 373, 374, 375, 376, 377, 378, 380, 381, 382, 385, 386, 387, 388, 389, 390, 391, 392, 393, 394, 395, 396, 397, 398, 399, 400, 401, 402, 403, 404, 405, 406, 407, 408, 415, 416, 417, 418, 419, 420, 421, 422, 425, 426, 427, 428, 429, 442, 443, 444, 445, 446, 447, 448, 449, 452, 453, 454, 455, 456, 874, 1069, 2]), (21, [315]), (24, [545, 67, 542, 543, 544]), (28, [315]), (32, [580, 67, 577, 578, 579]), (37, [316]), (41, [314]), (44, [182]), (48, [315]), (51, [272]), (54, [587, 77, 683, 586])]
def phX5_piece : List (Nat × List Nat) := [(2, [471, 62, 468, 470, 4]), (8, [694, 62, 691, 693, 27]), (12, [699, 62, 696, 698, 28]), (16, [315]), (21, [704, 67, 701, 702, 703]), (32, [342, 74, 384, 71, 72, 73, 74, 75, 76, 84, 85, 171, 210, 236, 256, 312, 325, 343, 344, 345, 346, 347, 348, 349, 350, 351, 352, 353, 354, 355, 356, 357, 358, 359, 360, 361, 362, 363, 364, 365, 366, 367, 368, 369, 370, 371, 372, 373, 374, 375, 376, 377, 378, 380, 381, 382, 385, 386, 387, 388, 389, 390, 391, 392, 393, 394, 395, 396, 397, 398, 399, 400, 401, 402, 403, 404, 405, 406, 407, 408, 415, 416, 417, 418, 419, 420, 421, 422, 425, 426, 427, 428, 429, 442, 443, 444, 445, 446, 447, 448, 449, 452, 453, 454, 455, 456, 874, 1069, 2]), (69, [313]), (72, [126]), (80, [313]), (83, [130]), (91, [313]), (94, [133]), (102, [315]), (105, [267]), (112, [533, 62, 531, 532])]
def phX5_chosen : List (Nat × List Nat) := [(2, [488, 62, 485, 487, 5]), (6, [699, 62, 696, 698, 28]), (10, [315]), (13, [263])]
def phX5_open : List (Nat × List Nat) := [(3, [694, 62, 691, 693, 27]), (8, [723, 62, 720, 722, 29]), (12, [699, 62, 696, 698, 28]), (16, [315]), (20, [728, 67, 725, 726, 727]), (36, [315]), (40, [732, 67, 729, 730, 731])]
def phX5_joined : List (Nat × List Nat) := [(2, [471, 62, 468, 470, 4]), (6, [699, 62, 696, 698, 28]), (10, [315]), (13, [272]), (17, [533, 62, 531, 532])]
def phX5_broken : List (Nat × List Nat) := [(2, [723, 62, 720, 722, 29]), (6, [699, 62, 696, 698, 28]), (10, [315]), (14, [750, 67, 747, 748, 749])]
def phX5_history : List (Nat × List Nat) := [(5, [493, 62, 490, 492, 6]), (9, [699, 62, 696, 698, 28]), (13, [315]), (16, [265]), (20, [313]), (29, [499, 64, 496, 497, 498])]
def phX5_count : List (Nat × List Nat) := [(4, [694, 62, 691, 693, 27]), (45, [314]), (48, [182]), (53, [314]), (56, [187]), (61, [313]), (64, [144]), (69, [316]), (76, [315]), (79, [275]), (88, [316]), (95, [315]), (98, [277]), (107, [316]), (114, [315]), (117, [279])]
def phX5_rulesOf : List (Nat × List Nat) := [(29, [313]), (32, [136]), (37, [313]), (40, [138]), (45, [313]), (48, [140]), (52, [414, 75, 424, 71, 72, 73, 74, 75, 76, 84, 85, 171, 210, 236, 256, 312, 325, 343, 344, 345, 346, 347, 348, 349, 350, 351, 352, 353, 354, 355, 356, 357, 358, 359, 360, 361, 362, 363, 364, 365, 366, 367, 368, 369, 370, 371, 372, 373, 374, 375, 376, 377, 378, 380, 381, 382, 385, 386, 387, 388, 389, 390, 391, 392, 393, 394, 395, 396, 397, 398, 399, 400, 401, 402, 403, 404, 405, 406, 407, 408, 415, 416, 417, 418, 419, 420, 421, 422, 425, 426, 427, 428, 429, 442, 443, 444, 445, 446, 447, 448, 449, 452, 453, 454, 455, 456, 874, 1069, 2])]
def phX5_needLayer : List (Nat × List Nat) := [(6, [313]), (9, [113]), (15, [342, 74, 384, 71, 72, 73, 74, 75, 76, 84, 85, 171, 210, 236, 256, 312, 325, 343, 344, 345, 346, 347, 348, 349, 350, 351, 352, 353, 354, 355, 356, 357, 358, 359, 360, 361, 362, 363, 364, 365, 366, 367, 368, 369, 370, 371, 372, 373, 374, 375, 376, 377, 378, 380, 381, 382, 385, 386, 387, 388, 389, 390, 391, 392, 393, 394, 395, 396, 397, 398, 399, 400, 401, 402, 403, 404, 405, 406, 407, 408, 415, 416, 417, 418, 419, 420, 421, 422, 425, 426, 427, 428, 429, 442, 443, 444, 445, 446, 447, 448, 449, 452, 453, 454, 455, 456, 874, 1069, 2])]
def phX5_needPlace : List (Nat × List Nat) := [(2, [341, 62, 338, 340, 1]), (13, [313]), (16, [116]), (34, [313]), (37, [119]), (45, [342, 74, 384, 71, 72, 73, 74, 75, 76, 84, 85, 171, 210, 236, 256, 312, 325, 343, 344, 345, 346, 347, 348, 349, 350, 351, 352, 353, 354, 355, 356, 357, 358, 359, 360, 361, 362, 363, 364, 365, 366, 367, 368, 369, 370, 371, 372, 373, 374, 375, 376, 377, 378, 380, 381, 382, 385, 386, 387, 388, 389, 390, 391, 392, 393, 394, 395, 396, 397, 398, 399, 400, 401, 402, 403, 404, 405, 406, 407, 408, 415, 416, 417, 418, 419, 420, 421, 422, 425, 426, 427, 428, 429, 442, 443, 444, 445, 446, 447, 448, 449, 452, 453, 454, 455, 456, 874, 1069, 2])]
def phX5_needNet : List (Nat × List Nat) := [(6, [314]), (9, [182]), (15, [342, 74, 384, 71, 72, 73, 74, 75, 76, 84, 85, 171, 210, 236, 256, 312, 325, 343, 344, 345, 346, 347, 348, 349, 350, 351, 352, 353, 354, 355, 356, 357, 358, 359, 360, 361, 362, 363, 364, 365, 366, 367, 368, 369, 370, 371, 372, 373, 374, 375, 376, 377, 378, 380, 381, 382, 385, 386, 387, 388, 389, 390, 391, 392, 393, 394, 395, 396, 397, 398, 399, 400, 401, 402, 403, 404, 405, 406, 407, 408, 415, 416, 417, 418, 419, 420, 421, 422, 425, 426, 427, 428, 429, 442, 443, 444, 445, 446, 447, 448, 449, 452, 453, 454, 455, 456, 874, 1069, 2])]
def phX5_needPin : List (Nat × List Nat) := [(6, [314]), (9, [187]), (15, [342, 74, 384, 71, 72, 73, 74, 75, 76, 84, 85, 171, 210, 236, 256, 312, 325, 343, 344, 345, 346, 347, 348, 349, 350, 351, 352, 353, 354, 355, 356, 357, 358, 359, 360, 361, 362, 363, 364, 365, 366, 367, 368, 369, 370, 371, 372, 373, 374, 375, 376, 377, 378, 380, 381, 382, 385, 386, 387, 388, 389, 390, 391, 392, 393, 394, 395, 396, 397, 398, 399, 400, 401, 402, 403, 404, 405, 406, 407, 408, 415, 416, 417, 418, 419, 420, 421, 422, 425, 426, 427, 428, 429, 442, 443, 444, 445, 446, 447, 448, 449, 452, 453, 454, 455, 456, 874, 1069, 2])]
def phX5_needWhat : List (Nat × List Nat) := [(9, [342, 74, 384, 71, 72, 73, 74, 75, 76, 84, 85, 171, 210, 236, 256, 312, 325, 343, 344, 345, 346, 347, 348, 349, 350, 351, 352, 353, 354, 355, 356, 357, 358, 359, 360, 361, 362, 363, 364, 365, 366, 367, 368, 369, 370, 371, 372, 373, 374, 375, 376, 377, 378, 380, 381, 382, 385, 386, 387, 388, 389, 390, 391, 392, 393, 394, 395, 396, 397, 398, 399, 400, 401, 402, 403, 404, 405, 406, 407, 408, 415, 416, 417, 418, 419, 420, 421, 422, 425, 426, 427, 428, 429, 442, 443, 444, 445, 446, 447, 448, 449, 452, 453, 454, 455, 456, 874, 1069, 2])]
def phX5_needNotBelowZero : List (Nat × List Nat) := [(4, [342, 74, 384, 71, 72, 73, 74, 75, 76, 84, 85, 171, 210, 236, 256, 312, 325, 343, 344, 345, 346, 347, 348, 349, 350, 351, 352, 353, 354, 355, 356, 357, 358, 359, 360, 361, 362, 363, 364, 365, 366, 367, 368, 369, 370, 371, 372, 373, 374, 375, 376, 377, 378, 380, 381, 382, 385, 386, 387, 388, 389, 390, 391, 392, 393, 394, 395, 396, 397, 398, 399, 400, 401, 402, 403, 404, 405, 406, 407, 408, 415, 416, 417, 418, 419, 420, 421, 422, 425, 426, 427, 428, 429, 442, 443, 444, 445, 446, 447, 448, 449, 452, 453, 454, 455, 456, 874, 1069, 2])]
def phX5_needRun : List (Nat × List Nat) := [(1, [316]), (7, [441, 76, 451, 71, 72, 73, 74, 75, 76, 84, 85, 171, 210, 236, 256, 312, 325, 343, 344, 345, 346, 347, 348, 349, 350, 351, 352, 353, 354, 355, 356, 357, 358, 359, 360, 361, 362, 363, 364, 365, 366, 367, 368, 369, 370, 371, 372, 373, 374, 375, 376, 377, 378, 380, 381, 382, 385, 386, 387, 388, 389, 390, 391, 392, 393, 394, 395, 396, 397, 398, 399, 400, 401, 402, 403, 404, 405, 406, 407, 408, 415, 416, 417, 418, 419, 420, 421, 422, 425, 426, 427, 428, 429, 442, 443, 444, 445, 446, 447, 448, 449, 452, 453, 454, 455, 456, 874, 1069, 2])]
def phX5_isIn : List (Nat × List Nat) := []
def phX6_init : List (Nat × List Nat) := [(1, [774, 84, 85]), (6, [172]), (8, [782]), (13, [172]), (27, [783]), (32, [172]), (46, [784]), (53, [173]), (55, [785]), (61, [173]), (63, [787]), (69, [172]), (71, [789]), (78, [172]), (80, [790]), (86, [172]), (88, [791]), (94, [172]), (96, [793]), (102, [173]), (104, [794]), (110, [173]), (112, [795]), (118, [172]), (120, [796]), (127, [172]), (129, [797]), (136, [173]), (138, [798]), (145, [173]), (147, [799]), (154, [173]), (156, [803]), (163, [173]), (165, [804]), (172, [173]), (174, [805]), (181, [173]), (183, [806]), (190, [172]), (192, [807]), (198, [173]), (200, [808]), (207, [173]), (209, [809]), (216, [777, 70, 775, 776]), (219, [779]), (226, [777, 70, 775, 776]), (229, [780]), (237, [777, 70, 775, 776]), (240, [781])]
def phX6_thrown : List (Nat × List Nat) := [(1, [778])]
def phX6_clip : List (Nat × List Nat) := []
def phX6_isIn : List (Nat × List Nat) := []
def phX6_refuses : List (Nat × List Nat) := [(2, [778])]
def phX6_all : List (Nat × List Nat) := [(1, [779]), (5, [780]), (10, [781])]
def phX6_placeOf : List (Nat × List Nat) := [(4, [779]), (10, [886, 70, 884, 885]), (19, [780]), (25, [886, 70, 884, 885]), (35, [781]), (41, [886, 70, 884, 885]), (61, [781]), (70, [780])]
def phX6_layerOf : List (Nat × List Nat) := [(2, [780]), (6, [781])]
def phX6_xOf : List (Nat × List Nat) := [(2, [780])]
def phX6_yOf : List (Nat × List Nat) := [(2, [780]), (7, [781])]
def phX6_rule : List (Nat × List Nat) := [(6, [883]), (9, [886, 70, 884, 885]), (22, [887]), (25, [886, 70, 884, 885]), (38, [887]), (41, [886, 70, 884, 885]), (59, [779]), (65, [886, 70, 884, 885]), (85, [891, 70, 888, 890, 31]), (98, [782]), (112, [783]), (121, [784]), (133, [782]), (149, [783]), (160, [784]), (169, [792]), (188, [792])]
def phX6_net : List (Nat × List Nat) := [(2, [786]), (15, [891, 70, 888, 890, 31]), (25, [792]), (30, [786]), (35, [786]), (39, [786])]
def phX6_isNet : List (Nat × List Nat) := [(6, [786])]
def phX6_isPin : List (Nat × List Nat) := [(6, [788])]
def phX6_pin : List (Nat × List Nat) := [(3, [903, 70, 900, 902, 32]), (14, [788]), (27, [891, 70, 888, 890, 31]), (37, [792]), (41, [789]), (45, [788]), (52, [788]), (57, [788]), (61, [788])]
def phX6_access : List (Nat × List Nat) := [(5, [911, 70, 908, 910, 33]), (13, [915, 70, 912, 914, 34]), (30, [791]), (44, [891, 70, 888, 890, 31]), (58, [791]), (67, [790]), (92, [792]), (96, [790]), (103, [791]), (113, [791])]
def phX6_bar : List (Nat × List Nat) := [(3, [780]), (9, [886, 70, 884, 885]), (19, [780]), (25, [886, 70, 884, 885]), (35, [781]), (41, [886, 70, 884, 885]), (52, [781]), (58, [886, 70, 884, 885]), (76, [779]), (82, [886, 70, 884, 885]), (102, [891, 70, 888, 890, 31]), (119, [923, 70, 920, 922, 35]), (128, [927, 70, 924, 926, 36]), (138, [931, 70, 928, 930, 37]), (145, [886, 70, 884, 885]), (154, [935, 70, 932, 934, 38]), (162, [886, 70, 884, 885]), (186, [785]), (203, [785]), (209, [785]), (237, [792]), (253, [792])]
def phX6_shield : List (Nat × List Nat) := [(3, [903, 70, 900, 902, 32]), (14, [891, 70, 888, 890, 31]), (24, [792]), (28, [787]), (33, [787]), (48, [787])]
def phX6_apart : List (Nat × List Nat) := []
def phX6_clashes : List (Nat × List Nat) := [(1, [782]), (6, [927, 70, 924, 926, 36]), (11, [787]), (20, [787]), (43, [927, 70, 924, 926, 36]), (49, [927, 70, 924, 926, 36]), (57, [931, 70, 928, 930, 37]), (63, [931, 70, 928, 930, 37]), (66, [963, 70, 961, 962]), (76, [935, 70, 932, 934, 38]), (82, [935, 70, 932, 934, 38]), (85, [963, 70, 961, 962])]
def phX6_placeOfPin : List (Nat × List Nat) := [(1, [793]), (15, [790]), (22, [793])]
def phX6_mayBe : List (Nat × List Nat) := [(1, [785]), (27, [956, 70, 953, 955, 41]), (44, [789]), (51, [789]), (59, [960, 70, 957, 959, 42])]
def phX6_pick : List (Nat × List Nat) := [(4, [786]), (11, [794]), (27, [788]), (34, [793]), (41, [791]), (54, [793]), (61, [790]), (70, [952, 70, 949, 951, 40]), (81, [793]), (94, [794]), (98, [789]), (104, [794]), (108, [789]), (118, [793])]
def phX6_mark : List (Nat × List Nat) := [(1, [782]), (7, [927, 70, 924, 926, 36]), (12, [787]), (21, [787]), (65, [927, 70, 924, 926, 36]), (71, [931, 70, 928, 930, 37]), (81, [935, 70, 932, 934, 38]), (88, [911, 70, 908, 910, 33])]
def phX6_markAll : List (Nat × List Nat) := [(4, [923, 70, 920, 922, 35]), (11, [805]), (18, [806]), (34, [788]), (41, [789]), (51, [793]), (62, [805]), (67, [789]), (74, [956, 70, 953, 955, 41]), (77, [987, 70, 984, 986, 48]), (90, [786]), (100, [923, 70, 920, 922, 35]), (112, [798]), (128, [806]), (134, [987, 70, 984, 986, 48])]
def phX6_beside : List (Nat × List Nat) := [(2, [927, 70, 924, 926, 36]), (28, [931, 70, 928, 930, 37]), (54, [935, 70, 932, 934, 38]), (87, [911, 70, 908, 910, 33])]
def phX6_stepCost : List (Nat × List Nat) := [(2, [927, 70, 924, 926, 36]), (17, [784]), (28, [784]), (76, [783])]
def phX6_isOpen : List (Nat × List Nat) := [(1, [785]), (10, [805]), (23, [806])]
def phX6_extra : List (Nat × List Nat) := [(1, [797]), (7, [806])]
def phX6_lower : List (Nat × List Nat) := [(4, [923, 70, 920, 922, 35]), (11, [807]), (16, [803]), (28, [992]), (49, [923, 70, 920, 922, 35]), (66, [803]), (77, [996, 70, 993, 995, 50]), (87, [1000, 70, 997, 999, 51]), (99, [807]), (105, [992]), (111, [807]), (121, [1004, 70, 1001, 1003, 52]), (127, [1008, 70, 1005, 1007, 53]), (132, [807]), (141, [807]), (146, [807]), (156, [1004, 70, 1001, 1003, 52]), (162, [1008, 70, 1005, 1007, 53])]
def phX6_goal : List (Nat × List Nat) := [(6, [788]), (14, [956, 70, 953, 955, 41]), (20, [789]), (30, [803]), (40, [807]), (46, [992]), (57, [807]), (64, [807]), (73, [807]), (80, [807])]
def phX6_isDone : List (Nat × List Nat) := [(6, [788]), (17, [789]), (27, [803]), (32, [956, 70, 953, 955, 41])]
def phX6_backFrom : List (Nat × List Nat) := [(11, [1000, 70, 997, 999, 51]), (23, [807]), (29, [992]), (35, [807]), (44, [1004, 70, 1001, 1003, 52]), (50, [1008, 70, 1005, 1007, 53]), (55, [807])]
def phX6_tearAt : List (Nat × List Nat) := [(1, [797]), (14, [786]), (26, [923, 70, 920, 922, 35]), (33, [808]), (47, [808]), (52, [798]), (73, [960, 70, 957, 959, 42])]
def phX6_take : List (Nat × List Nat) := [(4, [786]), (11, [808]), (26, [803]), (36, [1020, 70, 1017, 1019, 56]), (45, [1000, 70, 997, 999, 51]), (57, [804]), (75, [806]), (86, [1024, 70, 1021, 1023, 57]), (90, [803]), (108, [786]), (115, [808]), (127, [967, 70, 964, 966, 43]), (131, [795]), (139, [796])]
def phX6_dropRoute : List (Nat × List Nat) := [(4, [923, 70, 920, 922, 35]), (11, [798]), (24, [799])]
def phX6_routeNet : List (Nat × List Nat) := [(4, [923, 70, 920, 922, 35]), (11, [803]), (18, [804]), (33, [789]), (49, [803]), (54, [956, 70, 953, 955, 41]), (61, [979, 70, 976, 978, 46]), (69, [983, 70, 980, 982, 47]), (74, [991, 70, 988, 990, 49]), (79, [1012, 70, 1009, 1011, 54]), (90, [801]), (95, [801]), (103, [991, 70, 988, 990, 49]), (108, [1012, 70, 1009, 1011, 54]), (118, [796]), (127, [802]), (132, [802]), (138, [1016, 70, 1013, 1015, 55]), (148, [923, 70, 920, 922, 35]), (155, [798]), (166, [803]), (173, [799]), (184, [804]), (197, [795])]
def phX6_run : List (Nat × List Nat) := [(4, [944]), (7, [886, 70, 884, 885]), (18, [891, 70, 888, 890, 31]), (27, [948, 70, 945, 947, 39]), (34, [923, 70, 920, 922, 35]), (41, [797]), (57, [786]), (71, [788]), (79, [789]), (104, [967, 70, 964, 966, 43]), (108, [795]), (113, [794]), (133, [796]), (138, [794]), (160, [800]), (165, [801]), (170, [802]), (174, [800]), (182, [971, 70, 968, 970, 44]), (190, [800]), (195, [800]), (202, [786]), (209, [794]), (218, [795]), (228, [975, 70, 972, 974, 45]), (242, [792]), (251, [786]), (259, [795])]
def phX6_isLeft : List (Nat × List Nat) := [(6, [786]), (17, [794]), (26, [795])]
def phX6_stands : List (Nat × List Nat) := [(1, [798]), (19, [788]), (30, [789]), (43, [956, 70, 953, 955, 41])]
def phX6_piece : List (Nat × List Nat) := [(3, [903, 70, 900, 902, 32]), (12, [1029]), (15, [886, 70, 884, 885]), (26, [792]), (37, [891, 70, 888, 890, 31]), (54, [923, 70, 920, 922, 35]), (69, [1033, 70, 1030, 1032, 58]), (87, [927, 70, 924, 926, 36]), (101, [931, 70, 928, 930, 37]), (115, [935, 70, 932, 934, 38]), (122, [799]), (154, [778])]
def phX6_chosen : List (Nat × List Nat) := [(3, [915, 70, 912, 914, 34]), (14, [792]), (25, [891, 70, 888, 890, 31]), (36, [793])]
def phX6_open : List (Nat × List Nat) := [(5, [886, 70, 884, 885]), (20, [792]), (31, [891, 70, 888, 890, 31]), (47, [786]), (54, [795]), (77, [796])]
def phX6_joined : List (Nat × List Nat) := [(3, [903, 70, 900, 902, 32]), (14, [792]), (25, [891, 70, 888, 890, 31]), (32, [795])]
def phX6_findStanding : List (Nat × List Nat) := [(7, [786]), (15, [809]), (20, [798]), (36, [788]), (43, [793]), (53, [809]), (60, [789]), (68, [956, 70, 953, 955, 41])]
def phX6_isBroken : List (Nat × List Nat) := [(4, [786]), (19, [809]), (46, [927, 70, 924, 926, 36]), (51, [931, 70, 928, 930, 37]), (60, [935, 70, 932, 934, 38]), (66, [911, 70, 908, 910, 33]), (77, [786]), (90, [809]), (113, [960, 70, 957, 959, 42])]
def phX6_broken : List (Nat × List Nat) := [(10, [792]), (21, [891, 70, 888, 890, 31]), (30, [1053, 70, 1050, 1052, 59]), (39, [923, 70, 920, 922, 35]), (47, [1057, 70, 1054, 1056, 60])]
def phX6_history : List (Nat × List Nat) := [(5, [911, 70, 908, 910, 33]), (22, [792]), (33, [891, 70, 888, 890, 31]), (44, [797])]
def phX6_count : List (Nat × List Nat) := [(4, [1066]), (7, [886, 70, 884, 885]), (18, [891, 70, 888, 890, 31]), (36, [786]), (43, [788]), (58, [923, 70, 920, 922, 35]), (66, [785]), (90, [792]), (106, [800]), (118, [801]), (125, [802])]
def phL_cell : List (Nat × List Nat) := []
def phL_rule : List (Nat × List Nat) := [(7, [337, 62, 334, 335, 336])]
def phL_net : List (Nat × List Nat) := [(3, [440, 62, 437, 438, 439])]
def phL_pin : List (Nat × List Nat) := [(4, [467, 62, 464, 465, 466])]
def phL_access : List (Nat × List Nat) := [(9, [484, 62, 481, 482, 483])]
def phL_bar : List (Nat × List Nat) := [(12, [518, 62, 515, 516, 517])]
def phL_shield : List (Nat × List Nat) := [(4, [530, 62, 527, 528, 529])]
def phL_run : List (Nat × List Nat) := [(4, [540, 62, 537, 538, 539])]
def phL_piece : List (Nat × List Nat) := [(7, [690, 62, 687, 688, 689])]
def phL_chosen : List (Nat × List Nat) := [(4, [712, 62, 709, 710, 711])]
def phL_open : List (Nat × List Nat) := [(5, [719, 62, 716, 717, 718])]
def phL_joined : List (Nat × List Nat) := [(4, [739, 62, 736, 737, 738])]
def phL_broken : List (Nat × List Nat) := [(4, [746, 62, 743, 744, 745])]
def phL_history : List (Nat × List Nat) := [(8, [761, 62, 758, 759, 760])]
def phL_count : List (Nat × List Nat) := [(4, [768, 62, 765, 766, 767])]
def phL_law : List (Nat × List Nat) := [(0, [78, 79, 62]), (6, [328, 61, 326, 327]), (11, [328, 61, 326, 327]), (17, [328, 61, 326, 327]), (21, [82, 62, 80, 81]), (25, [769, 770, 70]), (31, [328, 61, 326, 327]), (36, [328, 61, 326, 327]), (42, [328, 61, 326, 327]), (46, [773, 70, 771, 772]), (51, [1068]), (174, [1067]), (180, [331, 61, 329, 330]), (215, [1067]), (220, [882, 70, 879, 880, 881]), (226, [878, 70, 875, 876, 877]), (265, [435, 61, 433, 434]), (271, [895, 70, 892, 893, 894]), (277, [878, 70, 875, 876, 877]), (315, [463, 61, 461, 462]), (327, [899, 70, 896, 897, 898]), (333, [878, 70, 875, 876, 877]), (393, [1067]), (416, [1067]), (422, [480, 61, 478, 479]), (457, [1067]), (480, [1067]), (485, [907, 70, 904, 905, 906]), (491, [878, 70, 875, 876, 877]), (552, [1067]), (574, [1067]), (598, [1067]), (622, [1067]), (628, [514, 61, 512, 513]), (657, [1067]), (679, [1067]), (703, [1067]), (727, [1067]), (732, [919, 70, 916, 917, 918]), (738, [878, 70, 875, 876, 877]), (783, [526, 61, 524, 525]), (795, [939, 70, 936, 937, 938]), (801, [878, 70, 875, 876, 877]), (846, [536, 61, 534, 535]), (858, [943, 70, 940, 941, 942]), (864, [878, 70, 875, 876, 877]), (914, [686, 61, 684, 685]), (938, [1028, 70, 1025, 1026, 1027]), (944, [878, 70, 875, 876, 877]), (982, [708, 61, 706, 707]), (994, [1037, 70, 1034, 1035, 1036]), (1000, [878, 70, 875, 876, 877]), (1044, [715, 61, 713, 714]), (1062, [1041, 70, 1038, 1039, 1040]), (1068, [878, 70, 875, 876, 877]), (1106, [735, 61, 733, 734]), (1118, [1045, 70, 1042, 1043, 1044]), (1124, [878, 70, 875, 876, 877]), (1169, [742, 61, 740, 741]), (1181, [1049, 70, 1046, 1047, 1048]), (1187, [878, 70, 875, 876, 877]), (1241, [1067]), (1263, [1067]), (1269, [757, 61, 755, 756]), (1298, [1067]), (1320, [1067]), (1325, [1061, 70, 1058, 1059, 1060]), (1331, [878, 70, 875, 876, 877]), (1369, [764, 61, 762, 763]), (1381, [1065, 70, 1062, 1063, 1064]), (1387, [878, 70, 875, 876, 877])]
end
section
/-! ===== the program in hand, and a check of its pure code against bytes and words ===== -/
def pgAt (mid : Nat) : pgR := (pgL[mid]?).getD pgL_law
def pgEx : Nat → String
  | 0 => "java/lang/IndexOutOfBoundsException"
  | 1 => "java/lang/IllegalArgumentException"
  | _ => "java/lang/IllegalStateException"
def pgTb : List Cond := lw_tbl.filter goodWord
def pgMb (w : Cond) : Bool := decide (w ∈ lw_tbl) && goodWord w
def pgHw (r : pgR) : Cond := match r.2.2.2.1.2.2.1 with
  | [] => .code r.1 r.2.1 r.2.2.2.1.2.1 r.2.2.1
  | _ :: _ => .codeWith r.1 r.2.1 r.2.2.2.1.2.1 r.2.2.1 r.2.2.2.2.1
def pgNC : List (String × String) := [("java/lang/IllegalArgumentException", "java/lang/IndexOutOfBoundsException"), ("java/lang/IllegalStateException", "java/lang/IndexOutOfBoundsException")]
def pgEW : List Cond := lw_tbl.filter pmEwOk
def pgG (mid : Nat) : Option pmM := match pgL[mid]? with
  | some r => some r.2.2.2.1
  | none => none
def pgD : pmD := (vwCl, pgTy, pgG, fun mid => (pgAt mid).1, fun mid => (pgAt mid).2.1, fun mid => (pgAt mid).2.2.1, fun mid => pgHw (pgAt mid) :: pgTb, fun mid => (pgAt mid).2.2.2.2.2.1, fun mid => (pgAt mid).2.2.2.2.2.2, fun mid => (pgAt mid).2.2.2.2.1, pgEx, pgEW, pgSR, pgNC, pgMb)
def pgSig (y : MethodName) (n : Nat) : Bool := decide (y.cls ≠ "java/lang/invoke/MethodHandle") && (decide (y.cls ≠ "java/lang/invoke/VarHandle") && decide ((parseMethodDescriptor y.desc).map (fun d => d.parameters.length) = some n))
def pgNoH (r : pgR) : Bool := match r.2.2.2.1.2.2.1 with
  | [] => true
  | _ :: _ => false
def pgEwb (w : Cond) : Bool := decide (w ∈ lw_tbl) && pmEwOk w
def pgHost : String := "TrackRoutes"
/-- words by where they stand -/
def pgMh (hs : List Nat) (w : Cond) : Bool := hs.any (fun i => decide (lw_tbl[i]? = some w)) && goodWord w
def pgEh (hs : List Nat) (w : Cond) : Bool := hs.any (fun i => decide (lw_tbl[i]? = some w)) && pmEwOk w
def pgHint : List (Nat × List Nat) → Nat → List Nat
  | [], _ => []
  | q :: r, pc => match Nat.beq q.1 pc with
    | true => q.2
    | false => pgHint r pc
def pgFit (hs : List Nat) (mid x : Nat) : Bool := decide ((pgAt x).2.2.2.2.2.1 + 1 ≤ (pgAt mid).2.2.2.2.2.1) && (decide (8 + ((pgAt x).2.2.2.1.2.1 + 11) + (pgAt x).2.2.2.2.2.2 ≤ (pgAt mid).2.2.2.2.2.2) && (plainName (pgAt x).1.cls && pgMh hs (pgHw (pgAt x))))
def pgMth (hs : List Nat) (r : pgR) (pc : Nat) (y : MethodName) (cc : ByteArray) (n : Nat) (t : FieldType) : Bool := match decode r.2.1 pc with
  | .ok (.invokestatic idx, 3) => pgMh hs (.methodLink r.1.cls idx y) && (pgMh hs (.static y) && (pgMh hs (.initialized "java/lang/Math") && (pgMh hs (.code y cc n (some t)) && (decide (1 ≤ r.2.2.2.2.2.1) && decide (23 ≤ r.2.2.2.2.2.2)))))
  | _ => false
def pgChk (hs : List Nat) (mid : Nat) (r : pgR) (e : pmE) : Bool :=
  let cc := r.2.1
  let own := r.1.cls
  let pc := e.1
  let x := e.2.2.1
  let y := e.2.2.2.1
  match e.2.1 with
  | .ireturn => decide (decode cc pc = .ok (.ireturn, 1)) && (decide (r.2.2.1 = some .int) || (decide (r.2.2.1 = some .boolean) && decide (y = 1)))
  | .lreturn => decide (decode cc pc = .ok (.lreturn, 1)) && decide (r.2.2.1 = some .long)
  | .areturn => decide (decode cc pc = .ok (.areturn, 1)) && decide (r.2.2.1 = some (.array .int))
  | .return_ => decide (decode cc pc = .ok (.return_, 1)) && decide (r.2.2.1 = none)
  | .athrow => (match decode cc pc with
    | .ok (.new ik, 3) => (match decode cc (pc + 4) with
      | .ok (.ldc is, 2) => (match decode cc (pc + 6) with
        | .ok (.invokespecial ic, 3) => Bundle.fit (pgEx x) && (pgMh hs (.classLink own ik (pgEx x)) && (pgMh hs (.initialized (pgEx x)) && (pgSR.any (fun q => decide (q.1 = own) && decide (q.2.1 = is)) && (((vx_atS own ic (pgEx x) pmNm).filter goodWord).all (pgMh hs) && (((vx_atS own ic (pgEx x) pmNm).filter (fun w => !goodWord w)).all (pgEh hs) && ((Cond.classLink own ik (pgEx x) :: Cond.initialized (pgEx x) :: vx_atS own ic (pgEx x) pmNm).all vx_ot && (decide (decode cc (pc + 3) = .ok (.dup, 1)) && (decide (decode cc (pc + 9) = .ok (.athrow, 1)) && (decide (5 < r.2.2.2.2.2.1) && decide (90 ≤ r.2.2.2.2.2.2))))))))))
        | _ => false)
      | _ => false)
    | _ => false)
  | .nop => (match decode cc pc with
    | .ok (.invokespecial idx, 3) => pgMh hs (.methodLink own idx Lib.objectInit) && (pgMh hs (.instanceMethod Lib.objectInit) && (pgMh hs (.code Lib.objectInit ⟨#[0xb1]⟩ 1 none) && (decide (1 ≤ r.2.2.2.2.2.1) && decide (20 ≤ r.2.2.2.2.2.2))))
    | _ => false)
  | .swap => pgMth hs r pc Lib.Math.max.name Lib.Math.max.code 2 .int
  | .dup_x1 => pgMth hs r pc Lib.Math.min.name Lib.Math.min.code 2 .int
  | .dup_x2 => pgMth hs r pc Lib.MathLoose.max_long.x Lib.MathLoose.max_long.code 4 .long
  | .dup2_x1 => pgMth hs r pc Lib.MathLoose.min_long.x Lib.MathLoose.min_long.code 4 .long
  | .invokevirtual idx => decide (decode cc pc = .ok (.invokevirtual idx, 3)) && (decide (x < pgL.length) && (pgNoH (pgAt x) && (pgMh hs (.methodLink own idx (pgAt x).1) && (pgMh hs (.instanceMethod (pgAt x).1) && (pgMh hs (.selects (pgAt x).1.cls (pgAt x).1 (pgAt x).1) && (pgMh hs (.initialized (pgAt x).1.cls) && (pgSig (pgAt x).1 (y - 1) && (pgFit hs mid x && (match vwCl[(pgAt x).2.2.2.1.2.2.2]? with
    | some q => decide (q.1 = (pgAt x).1.cls)
    | none => false)))))))))
  | .invokestatic idx => decide (decode cc pc = .ok (.invokestatic idx, 3)) && (decide (x < pgL.length) && (pgSig (pgAt x).1 y && (pgFit hs mid x && (pgMh hs (.static (pgAt x).1) && (pgMh hs (.initialized (pgAt x).1.cls) && (pgMh hs (.methodLink own idx (pgAt x).1) || (pgNoH (pgAt x) && pgEh hs (.methodLinkNest own idx (pgAt x).1 pgHost))))))))
  | .invokespecial idx => decide (decode cc pc = .ok (.invokespecial idx, 3)) && (decide (x < pgL.length) && (pgNoH (pgAt x) && (decide ((pgAt x).2.2.1 = none) && (decide ((pgAt x).1.name = "<init>") && (pgSig (pgAt x).1 (y - 1) && (pgFit hs mid x && (pgMh hs (.initialized (pgAt x).1.cls) && (pgMh hs (.instanceMethod (pgAt x).1) && (pgMh hs (.methodLink own idx (pgAt x).1) || pgEh hs (.methodLinkNest own idx (pgAt x).1 pgHost))))))))))
  | i => (match pmKA i with
    | true => pmOkA own (pgMh hs) cc r.2.2.2.1.2.1 pc i x e.2.2.2.2
    | false => pmOkB vwCl own (decide (r.1.name = "<init>")) (pgMh hs) cc pc i x y)
def pgChkM (mid : Nat) (hl : List (Nat × List Nat)) : Bool := (pgAt mid).2.2.2.1.1.all (fun c => c.all (fun e => pgChk (pgHint hl e.1) mid (pgAt mid) e))
theorem pgMh_ok {hs : List Nat} {w : Cond} (h : pgMh hs w = true) : pgMb w = true := by
  simp only [pgMh, Bool.and_eq_true, List.any_eq_true, decide_eq_true_eq] at h
  obtain ⟨⟨i, -, hi⟩, hg⟩ := h
  simp only [pgMb, Bool.and_eq_true, decide_eq_true_eq]
  exact ⟨List.mem_of_getElem? hi, hg⟩
theorem pgEh_ok {hs : List Nat} {w : Cond} (h : pgEh hs w = true) : pgEwb w = true := by
  simp only [pgEh, Bool.and_eq_true, List.any_eq_true, decide_eq_true_eq] at h
  obtain ⟨⟨i, -, hi⟩, hg⟩ := h
  simp only [pgEwb, Bool.and_eq_true, decide_eq_true_eq]
  exact ⟨List.mem_of_getElem? hi, hg⟩
theorem pmOkA_mono {own : String} {mb mb1 : Cond → Bool} {cc : ByteArray} {nL pc x : Nat} {i : Instr} {k : Int32} (hm : ∀ w, mb w = true → mb1 w = true) (h : pmOkA own mb cc nL pc i x k = true) : pmOkA own mb1 cc nL pc i x k = true := by
  unfold pmOkA at h ⊢
  split at h <;> first
    | exact h
    | (simp only [Bool.and_eq_true] at h ⊢; exact ⟨h.1, hm _ h.2⟩)
theorem pmOkB_mono {cl : List vw_C} {own : String} {ini : Bool} {mb mb1 : Cond → Bool} {cc : ByteArray} {pc x y : Nat} {i : Instr} (hm : ∀ w, mb w = true → mb1 w = true) (h : pmOkB cl own ini mb cc pc i x y = true) : pmOkB cl own ini mb1 cc pc i x y = true := by
  unfold pmOkB at h ⊢
  split at h
  · cases hc : cl[x]? with
    | none => rw [hc] at h; simp at h
    | some q =>
      rw [hc] at h
      simp only [Bool.and_eq_true] at h ⊢
      exact ⟨h.1, h.2.1, hm _ h.2.2⟩
  · cases hc : cl[x]? with
    | none => rw [hc] at h; simp at h
    | some q =>
      rw [hc] at h
      simp only [Bool.and_eq_true] at h ⊢
      exact ⟨h.1, h.2.1, hm _ h.2.2.1, h.2.2.2⟩
  · simp only [Bool.and_eq_true] at h ⊢
    exact ⟨h.1, hm _ h.2⟩
  · cases hc : cl[x]? with
    | none => rw [hc] at h; simp at h
    | some q =>
      rw [hc] at h
      simp only [Bool.and_eq_true] at h ⊢
      exact ⟨h.1, hm _ h.2.1, hm _ h.2.2.1, hm _ h.2.2.2⟩
  · exact h
theorem pgMb_in {w : Cond} (h : pgMb w = true) (mid : Nat) : w ∈ dws pgD mid := by
  simp only [pgMb, Bool.and_eq_true, decide_eq_true_eq] at h
  exact List.mem_cons_of_mem _ (List.mem_filter.mpr ⟨h.1, h.2⟩)
set_option maxRecDepth 100000 in
theorem pgEw_in {w : Cond} (h : pgEwb w = true) : w ∈ dEW pgD := by
  simp only [pgEwb, Bool.and_eq_true, decide_eq_true_eq] at h
  have e : dEW pgD = List.filter pmEwOk lw_tbl := by unfold dEW pgD pgEW; rfl
  rw [e]
  exact List.mem_filter.mpr ⟨h.1, h.2⟩
theorem pgGood {x mid : Nat} (h : pgMb (pgHw (pgAt x)) = true) : GoodIn (dws pgD mid) (dws pgD x) := by
  intro w hw
  rcases List.mem_cons.mp hw with e | e
  · rw [e]
    simp only [pgMb, Bool.and_eq_true] at h
    exact ⟨pgMb_in (by simp only [pgMb, Bool.and_eq_true]; exact h) mid, good_of_word h.2⟩
  · exact ⟨List.mem_cons_of_mem _ e, good_of_word (List.mem_filter.mp e).2⟩
theorem pgGood1 {mid : Nat} {w : Cond} {ws : List Cond} (h : pgMb w = true) (h2 : GoodIn (dws pgD mid) ws) : GoodIn (dws pgD mid) (w :: ws) := by
  intro u hu
  rcases List.mem_cons.mp hu with e | e
  · rw [e]
    have h3 := h
    simp only [pgMb, Bool.and_eq_true] at h3
    exact ⟨pgMb_in h mid, good_of_word h3.2⟩
  · exact h2 u e
theorem pgG_at {x : Nat} {M : pmM} (h : pgG x = some M) : (pgAt x).2.2.2.1 = M ∧ x < pgL.length := by
  unfold pgG at h
  split at h
  · rename_i r hr
    cases h
    exact ⟨by simp [pgAt, hr], (List.getElem?_eq_some_iff.mp hr).1⟩
  · cases h
theorem pgHd {x : Nat} {M : pmM} (h : pgG x = some M) : pmHd pgD x M := by
  obtain ⟨h1, -⟩ := pgG_at h
  subst h1
  unfold pmHd
  cases hc : (pgAt x).2.2.2.1.2.2.1 with
  | nil =>
    refine Or.inl ⟨rfl, pgTb, ?_⟩
    show pgHw (pgAt x) :: pgTb = _
    unfold pgHw
    rw [hc]
    rfl
  | cons a b =>
    refine Or.inr ⟨by simp, pgTb, ?_⟩
    show pgHw (pgAt x) :: pgTb = _
    unfold pgHw
    rw [hc]
    rfl
theorem pgFit_ok {hs : List Nat} {mid x : Nat} {M : pmM} (hG : pgG x = some M) (h : pgFit hs mid x = true) : pmFit pgD mid x M ∧ pgMb (pgHw (pgAt x)) = true := by
  obtain ⟨h1, -⟩ := pgG_at hG
  have hd := pgHd hG
  subst h1
  simp only [pgFit, Bool.and_eq_true, decide_eq_true_eq] at h
  exact ⟨⟨h.1, h.2.1, h.2.2.1, hd⟩, pgMh_ok h.2.2.2⟩
theorem pgSig_ok {y : MethodName} {n : Nat} (h : pgSig y n = true) : pmSig y n := by
  simp only [pgSig, Bool.and_eq_true, decide_eq_true_eq] at h
  exact h
theorem pgNoH_ok {x : Nat} {M : pmM} (hG : pgG x = some M) (h : pgNoH (pgAt x) = true) : M.2.2.1 = [] := by
  obtain ⟨h1, -⟩ := pgG_at hG
  subst h1
  unfold pgNoH at h
  split at h
  · rename_i q; exact q
  · cases h
theorem pgMth_ok {hs : List Nat} {mid pc : Nat} {y : MethodName} {cc : ByteArray} {n : Nat} {t : FieldType} (h : pgMth hs (pgAt mid) pc y cc n t = true) : pmMth pgD mid pc y cc n t := by
  unfold pgMth at h
  split at h
  · rename_i idx d0
    simp only [Bool.and_eq_true, decide_eq_true_eq] at h
    obtain ⟨h1, h2, h3, h4, h5, h6⟩ := h
    exact ⟨idx, d0, pgMb_in (pgMh_ok h1) mid, pgMb_in (pgMh_ok h2) mid, pgMb_in (pgMh_ok h3) mid, pgMb_in (pgMh_ok h4) mid, h5, h6⟩
  · cases h
set_option maxHeartbeats 4000000 in
theorem pgChk_ok {hs : List Nat} {mid : Nat} {M : pmM} (hG : pgG mid = some M) {pc : Nat} {q : Instr × Nat × Nat × Int32} (h : pgChk hs mid (pgAt mid) (pc, q) = true) : pmEOk pgD mid M pc q := by
  obtain ⟨hM, -⟩ := pgG_at hG
  subst hM
  obtain ⟨i, x, y, k⟩ := q
  unfold pgChk at h
  unfold pmEOk
  dsimp only at h ⊢
  split at h
  · simp only [Bool.and_eq_true, decide_eq_true_eq, Bool.or_eq_true] at h; exact h
  · simp only [Bool.and_eq_true, decide_eq_true_eq] at h; exact h
  · simp only [Bool.and_eq_true, decide_eq_true_eq] at h; exact ⟨h.1, _, h.2⟩
  · simp only [Bool.and_eq_true, decide_eq_true_eq] at h; exact h
  · split at h
    · rename_i ik d0
      split at h
      · rename_i is d4
        split at h
        · rename_i ic d6
          simp only [Bool.and_eq_true, decide_eq_true_eq, List.any_eq_true, List.all_eq_true] at h
          obtain ⟨h1, h2, h3, ⟨⟨qa, qb, qc⟩, hq, hqa, hqb⟩, h5, h6, h7, h8, h9, h10, h11⟩ := h
          dsimp only at hqa hqb
          subst hqa
          subst hqb
          exact ⟨ik, _, ic, qc, h1, pgMb_in (pgMh_ok h2) mid, pgMb_in (pgMh_ok h3) mid, hq, fun w hw => pgMb_in (pgMh_ok (h5 w hw)) mid, fun w hw => pgEw_in (pgEh_ok (h6 w hw)), h7, d0, h8, d4, d6, h9, h10, h11⟩
        · cases h
      · cases h
    · cases h
  · split at h
    · rename_i idx d0
      simp only [Bool.and_eq_true, decide_eq_true_eq] at h
      obtain ⟨h1, h2, h3, h4, h5⟩ := h
      exact ⟨idx, d0, pgMb_in (pgMh_ok h1) mid, pgMb_in (pgMh_ok h2) mid, pgMb_in (pgMh_ok h3) mid, h4, h5⟩
    · cases h
  · exact pgMth_ok h
  · exact pgMth_ok h
  · exact pgMth_ok h
  · exact pgMth_ok h
  · rename_i idx
    simp only [Bool.and_eq_true, decide_eq_true_eq] at h
    obtain ⟨h0, h1, h2, h3, h4, h5, h6, h7, h8, h9⟩ := h
    refine ⟨h0, fun M2 hM2 => ?_⟩
    obtain ⟨f1, f2⟩ := pgFit_ok hM2 h8
    have e2 := (pgG_at hM2).1
    refine ⟨pgNoH_ok hM2 h2, pgGood1 (pgMh_ok h3) (pgGood1 (pgMh_ok h4) (pgGood1 (pgMh_ok h5) (pgGood1 (pgMh_ok h6) (pgGood f2)))), pgSig_ok h7, f1, ?_⟩
    split at h9
    · rename_i qq hqq
      simp only [decide_eq_true_eq] at h9
      obtain ⟨q1, q2, q3⟩ := qq
      dsimp only at h9
      subst h9
      rw [e2] at hqq
      exact ⟨q2, q3, hqq⟩
    · cases h9
  · rename_i idx
    simp only [Bool.and_eq_true, decide_eq_true_eq, Bool.or_eq_true] at h
    obtain ⟨h0, h1, h2, h3, h4, h5, h6⟩ := h
    refine ⟨h0, fun M2 hM2 => ?_⟩
    obtain ⟨f1, f2⟩ := pgFit_ok hM2 h3
    refine ⟨pgSig_ok h2, f1, ?_⟩
    rcases h6 with h6 | ⟨h6, h7⟩
    · exact Or.inl (pgGood1 (pgMh_ok h6) (pgGood1 (pgMh_ok h4) (pgGood1 (pgMh_ok h5) (pgGood f2))))
    · exact Or.inr ⟨pgNoH_ok hM2 h6, pgGood f2, ⟨pgHost, pgEw_in (pgEh_ok h7)⟩, pgMb_in (pgMh_ok h5) mid, pgMb_in (pgMh_ok h4) mid⟩
  · rename_i idx
    simp only [Bool.and_eq_true, decide_eq_true_eq, Bool.or_eq_true] at h
    obtain ⟨h0, h1, h2, h3, h4, h5, h6, h7, h8, h9⟩ := h
    refine ⟨h0, fun M2 hM2 => ?_⟩
    obtain ⟨f1, f2⟩ := pgFit_ok hM2 h6
    refine ⟨pgNoH_ok hM2 h2, h3, h4, pgSig_ok h5, f1, pgGood f2, pgMb_in (pgMh_ok h7) mid, pgMb_in (pgMh_ok h8) mid, ?_⟩
    rcases h9 with h9 | h9
    · exact Or.inl (pgMb_in (pgMh_ok h9) mid)
    · exact Or.inr ⟨pgHost, pgEw_in (pgEh_ok h9)⟩
  · have h2 : (match pmKA i with
        | true => pmOkA (pgAt mid).1.cls pgMb (pgAt mid).2.1 (pgAt mid).2.2.2.1.2.1 pc i x k
        | false => pmOkB vwCl (pgAt mid).1.cls (decide ((pgAt mid).1.name = "<init>")) pgMb (pgAt mid).2.1 pc i x y) = true := by
      cases hk : pmKA i with
      | true => rw [hk] at h; exact pmOkA_mono (fun w => pgMh_ok) h
      | false => rw [hk] at h; exact pmOkB_mono (fun w => pgMh_ok) h
    clear h
    split <;> first | exact h2 | (exfalso; simp_all; done)
end
section
set_option maxRecDepth 100000 in
theorem ok_J6_bitCount_0f7a4 : pgChkM m_J6_bitCount_0f7a4 phJ6_bitCount_0f7a4 = true := by decide +kernel
set_option maxRecDepth 100000 in
theorem ok_J7_fill_53178 : pgChkM m_J7_fill_53178 phJ7_fill_53178 = true := by decide +kernel
set_option maxRecDepth 100000 in
theorem ok_X0_init : pgChkM m_X0_init phX0_init = true := by decide +kernel
set_option maxRecDepth 100000 in
theorem ok_X0_addNet : pgChkM m_X0_addNet phX0_addNet = true := by decide +kernel
set_option maxRecDepth 100000 in
theorem ok_X0_addPin : pgChkM m_X0_addPin phX0_addPin = true := by decide +kernel
set_option maxRecDepth 100000 in
theorem ok_X0_accessPlace : pgChkM m_X0_accessPlace phX0_accessPlace = true := by decide +kernel
set_option maxRecDepth 100000 in
theorem ok_X0_hasAccess : pgChkM m_X0_hasAccess phX0_hasAccess = true := by decide +kernel
set_option maxRecDepth 100000 in
theorem ok_X0_addAccess : pgChkM m_X0_addAccess phX0_addAccess = true := by decide +kernel
set_option maxRecDepth 100000 in
theorem ok_X1_init : pgChkM m_X1_init phX1_init = true := by decide +kernel
set_option maxRecDepth 100000 in
theorem ok_X1_clear : pgChkM m_X1_clear phX1_clear = true := by decide +kernel
set_option maxRecDepth 100000 in
theorem ok_X1_offer : pgChkM m_X1_offer phX1_offer = true := by decide +kernel
set_option maxRecDepth 100000 in
theorem ok_X1_take : pgChkM m_X1_take phX1_take = true := by decide +kernel
set_option maxRecDepth 100000 in
theorem ok_X1_sink : pgChkM m_X1_sink phX1_sink = true := by decide +kernel
set_option maxRecDepth 100000 in
theorem ok_X1_isBefore : pgChkM m_X1_isBefore phX1_isBefore = true := by decide +kernel
set_option maxRecDepth 100000 in
theorem ok_X1_put : pgChkM m_X1_put phX1_put = true := by decide +kernel
set_option maxRecDepth 100000 in
theorem ok_X2_init : pgChkM m_X2_init phX2_init = true := by decide +kernel
set_option maxRecDepth 100000 in
theorem ok_X2_numberPlaces : pgChkM m_X2_numberPlaces phX2_numberPlaces = true := by decide +kernel
set_option maxRecDepth 100000 in
theorem ok_X2_placeAt : pgChkM m_X2_placeAt phX2_placeAt = true := by decide +kernel
set_option maxRecDepth 100000 in
theorem ok_X2_close : pgChkM m_X2_close phX2_close = true := by decide +kernel
set_option maxRecDepth 100000 in
theorem ok_X2_beside : pgChkM m_X2_beside phX2_beside = true := by decide +kernel
set_option maxRecDepth 100000 in
theorem ok_X2_stepCost : pgChkM m_X2_stepCost phX2_stepCost = true := by decide +kernel
set_option maxRecDepth 100000 in
theorem ok_X3_init : pgChkM m_X3_init phX3_init = true := by decide +kernel
set_option maxRecDepth 100000 in
theorem ok_X3_begin : pgChkM m_X3_begin phX3_begin = true := by decide +kernel
set_option maxRecDepth 100000 in
theorem ok_X3_choosePlaces : pgChkM m_X3_choosePlaces phX3_choosePlaces = true := by decide +kernel
set_option maxRecDepth 100000 in
theorem ok_X3_firstFit : pgChkM m_X3_firstFit phX3_firstFit = true := by decide +kernel
set_option maxRecDepth 100000 in
theorem ok_X3_makeRounds : pgChkM m_X3_makeRounds phX3_makeRounds = true := by decide +kernel
set_option maxRecDepth 100000 in
theorem ok_X3_waits : pgChkM m_X3_waits phX3_waits = true := by decide +kernel
set_option maxRecDepth 100000 in
theorem ok_X3_someWait : pgChkM m_X3_someWait phX3_someWait = true := by decide +kernel
set_option maxRecDepth 100000 in
theorem ok_X3_route : pgChkM m_X3_route phX3_route = true := by decide +kernel
set_option maxRecDepth 100000 in
theorem ok_X3_countWay : pgChkM m_X3_countWay phX3_countWay = true := by decide +kernel
set_option maxRecDepth 100000 in
theorem ok_X3_placeOutside : pgChkM m_X3_placeOutside phX3_placeOutside = true := by decide +kernel
set_option maxRecDepth 100000 in
theorem ok_X3_findEnd : pgChkM m_X3_findEnd phX3_findEnd = true := by decide +kernel
set_option maxRecDepth 100000 in
theorem ok_X3_isGoal : pgChkM m_X3_isGoal phX3_isGoal = true := by decide +kernel
set_option maxRecDepth 100000 in
theorem ok_X3_offerAround : pgChkM m_X3_offerAround phX3_offerAround = true := by decide +kernel
set_option maxRecDepth 100000 in
theorem ok_X3_entryCost : pgChkM m_X3_entryCost phX3_entryCost = true := by decide +kernel
end
section
set_option maxRecDepth 100000 in
theorem ok_X3_traceBack : pgChkM m_X3_traceBack phX3_traceBack = true := by decide +kernel
set_option maxRecDepth 100000 in
theorem ok_X3_placeBefore : pgChkM m_X3_placeBefore phX3_placeBefore = true := by decide +kernel
set_option maxRecDepth 100000 in
theorem ok_X3_tearUp : pgChkM m_X3_tearUp phX3_tearUp = true := by decide +kernel
set_option maxRecDepth 100000 in
theorem ok_X3_dropRoute : pgChkM m_X3_dropRoute phX3_dropRoute = true := by decide +kernel
set_option maxRecDepth 100000 in
theorem ok_X3_layWay : pgChkM m_X3_layWay phX3_layWay = true := by decide +kernel
set_option maxRecDepth 100000 in
theorem ok_X3_standingAt : pgChkM m_X3_standingAt phX3_standingAt = true := by decide +kernel
set_option maxRecDepth 100000 in
theorem ok_X3_clashingPlace : pgChkM m_X3_clashingPlace phX3_clashingPlace = true := by decide +kernel
set_option maxRecDepth 100000 in
theorem ok_X3_hasClash : pgChkM m_X3_hasClash phX3_hasClash = true := by decide +kernel
set_option maxRecDepth 100000 in
theorem ok_X3_openNet : pgChkM m_X3_openNet phX3_openNet = true := by decide +kernel
set_option maxRecDepth 100000 in
theorem ok_X3_whyOpen : pgChkM m_X3_whyOpen phX3_whyOpen = true := by decide +kernel
set_option maxRecDepth 100000 in
theorem ok_X4_init : pgChkM m_X4_init phX4_init = true := by decide +kernel
set_option maxRecDepth 100000 in
theorem ok_X4_clear : pgChkM m_X4_clear phX4_clear = true := by decide +kernel
set_option maxRecDepth 100000 in
theorem ok_X4_add : pgChkM m_X4_add phX4_add = true := by decide +kernel
set_option maxRecDepth 100000 in
theorem ok_X4_mark : pgChkM m_X4_mark phX4_mark = true := by decide +kernel
set_option maxRecDepth 100000 in
theorem ok_X4_drop : pgChkM m_X4_drop phX4_drop = true := by decide +kernel
set_option maxRecDepth 100000 in
theorem ok_X4_clashing : pgChkM m_X4_clashing phX4_clashing = true := by decide +kernel
set_option maxRecDepth 100000 in
theorem ok_X5_init : pgChkM m_X5_init phX5_init = true := by decide +kernel
set_option maxRecDepth 100000 in
theorem ok_X5_rule : pgChkM m_X5_rule phX5_rule = true := by decide +kernel
set_option maxRecDepth 100000 in
theorem ok_X5_net : pgChkM m_X5_net phX5_net = true := by decide +kernel
set_option maxRecDepth 100000 in
theorem ok_X5_pin : pgChkM m_X5_pin phX5_pin = true := by decide +kernel
set_option maxRecDepth 100000 in
theorem ok_X5_access : pgChkM m_X5_access phX5_access = true := by decide +kernel
set_option maxRecDepth 100000 in
theorem ok_X5_bar : pgChkM m_X5_bar phX5_bar = true := by decide +kernel
set_option maxRecDepth 100000 in
theorem ok_X5_shield : pgChkM m_X5_shield phX5_shield = true := by decide +kernel
set_option maxRecDepth 100000 in
theorem ok_X5_run : pgChkM m_X5_run phX5_run = true := by decide +kernel
set_option maxRecDepth 100000 in
theorem ok_X5_piece : pgChkM m_X5_piece phX5_piece = true := by decide +kernel
set_option maxRecDepth 100000 in
theorem ok_X5_chosen : pgChkM m_X5_chosen phX5_chosen = true := by decide +kernel
set_option maxRecDepth 100000 in
theorem ok_X5_open : pgChkM m_X5_open phX5_open = true := by decide +kernel
set_option maxRecDepth 100000 in
theorem ok_X5_joined : pgChkM m_X5_joined phX5_joined = true := by decide +kernel
set_option maxRecDepth 100000 in
theorem ok_X5_broken : pgChkM m_X5_broken phX5_broken = true := by decide +kernel
set_option maxRecDepth 100000 in
theorem ok_X5_history : pgChkM m_X5_history phX5_history = true := by decide +kernel
set_option maxRecDepth 100000 in
theorem ok_X5_count : pgChkM m_X5_count phX5_count = true := by decide +kernel
set_option maxRecDepth 100000 in
theorem ok_X5_rulesOf : pgChkM m_X5_rulesOf phX5_rulesOf = true := by decide +kernel
set_option maxRecDepth 100000 in
theorem ok_X5_needLayer : pgChkM m_X5_needLayer phX5_needLayer = true := by decide +kernel
set_option maxRecDepth 100000 in
theorem ok_X5_needPlace : pgChkM m_X5_needPlace phX5_needPlace = true := by decide +kernel
set_option maxRecDepth 100000 in
theorem ok_X5_needNet : pgChkM m_X5_needNet phX5_needNet = true := by decide +kernel
end
section
set_option maxRecDepth 100000 in
theorem ok_X5_needPin : pgChkM m_X5_needPin phX5_needPin = true := by decide +kernel
set_option maxRecDepth 100000 in
theorem ok_X5_needWhat : pgChkM m_X5_needWhat phX5_needWhat = true := by decide +kernel
set_option maxRecDepth 100000 in
theorem ok_X5_needNotBelowZero : pgChkM m_X5_needNotBelowZero phX5_needNotBelowZero = true := by decide +kernel
set_option maxRecDepth 100000 in
theorem ok_X5_needRun : pgChkM m_X5_needRun phX5_needRun = true := by decide +kernel
set_option maxRecDepth 100000 in
theorem ok_X5_isIn : pgChkM m_X5_isIn phX5_isIn = true := by decide +kernel
set_option maxRecDepth 100000 in
theorem ok_X6_init : pgChkM m_X6_init phX6_init = true := by decide +kernel
set_option maxRecDepth 100000 in
theorem ok_X6_thrown : pgChkM m_X6_thrown phX6_thrown = true := by decide +kernel
set_option maxRecDepth 100000 in
theorem ok_X6_clip : pgChkM m_X6_clip phX6_clip = true := by decide +kernel
set_option maxRecDepth 100000 in
theorem ok_X6_isIn : pgChkM m_X6_isIn phX6_isIn = true := by decide +kernel
set_option maxRecDepth 100000 in
theorem ok_X6_refuses : pgChkM m_X6_refuses phX6_refuses = true := by decide +kernel
set_option maxRecDepth 100000 in
theorem ok_X6_all : pgChkM m_X6_all phX6_all = true := by decide +kernel
set_option maxRecDepth 100000 in
theorem ok_X6_placeOf : pgChkM m_X6_placeOf phX6_placeOf = true := by decide +kernel
set_option maxRecDepth 100000 in
theorem ok_X6_layerOf : pgChkM m_X6_layerOf phX6_layerOf = true := by decide +kernel
set_option maxRecDepth 100000 in
theorem ok_X6_xOf : pgChkM m_X6_xOf phX6_xOf = true := by decide +kernel
set_option maxRecDepth 100000 in
theorem ok_X6_yOf : pgChkM m_X6_yOf phX6_yOf = true := by decide +kernel
set_option maxRecDepth 100000 in
theorem ok_X6_rule : pgChkM m_X6_rule phX6_rule = true := by decide +kernel
set_option maxRecDepth 100000 in
theorem ok_X6_net : pgChkM m_X6_net phX6_net = true := by decide +kernel
set_option maxRecDepth 100000 in
theorem ok_X6_isNet : pgChkM m_X6_isNet phX6_isNet = true := by decide +kernel
set_option maxRecDepth 100000 in
theorem ok_X6_isPin : pgChkM m_X6_isPin phX6_isPin = true := by decide +kernel
set_option maxRecDepth 100000 in
theorem ok_X6_pin : pgChkM m_X6_pin phX6_pin = true := by decide +kernel
set_option maxRecDepth 100000 in
theorem ok_X6_access : pgChkM m_X6_access phX6_access = true := by decide +kernel
set_option maxRecDepth 100000 in
theorem ok_X6_bar : pgChkM m_X6_bar phX6_bar = true := by decide +kernel
set_option maxRecDepth 100000 in
theorem ok_X6_shield : pgChkM m_X6_shield phX6_shield = true := by decide +kernel
set_option maxRecDepth 100000 in
theorem ok_X6_apart : pgChkM m_X6_apart phX6_apart = true := by decide +kernel
set_option maxRecDepth 100000 in
theorem ok_X6_clashes : pgChkM m_X6_clashes phX6_clashes = true := by decide +kernel
set_option maxRecDepth 100000 in
theorem ok_X6_placeOfPin : pgChkM m_X6_placeOfPin phX6_placeOfPin = true := by decide +kernel
set_option maxRecDepth 100000 in
theorem ok_X6_mayBe : pgChkM m_X6_mayBe phX6_mayBe = true := by decide +kernel
set_option maxRecDepth 100000 in
theorem ok_X6_pick : pgChkM m_X6_pick phX6_pick = true := by decide +kernel
set_option maxRecDepth 100000 in
theorem ok_X6_mark : pgChkM m_X6_mark phX6_mark = true := by decide +kernel
set_option maxRecDepth 100000 in
theorem ok_X6_markAll : pgChkM m_X6_markAll phX6_markAll = true := by decide +kernel
set_option maxRecDepth 100000 in
theorem ok_X6_beside : pgChkM m_X6_beside phX6_beside = true := by decide +kernel
set_option maxRecDepth 100000 in
theorem ok_X6_stepCost : pgChkM m_X6_stepCost phX6_stepCost = true := by decide +kernel
set_option maxRecDepth 100000 in
theorem ok_X6_isOpen : pgChkM m_X6_isOpen phX6_isOpen = true := by decide +kernel
set_option maxRecDepth 100000 in
theorem ok_X6_extra : pgChkM m_X6_extra phX6_extra = true := by decide +kernel
set_option maxRecDepth 100000 in
theorem ok_X6_lower : pgChkM m_X6_lower phX6_lower = true := by decide +kernel
end
section
set_option maxRecDepth 100000 in
theorem ok_X6_goal : pgChkM m_X6_goal phX6_goal = true := by decide +kernel
set_option maxRecDepth 100000 in
theorem ok_X6_isDone : pgChkM m_X6_isDone phX6_isDone = true := by decide +kernel
set_option maxRecDepth 100000 in
theorem ok_X6_backFrom : pgChkM m_X6_backFrom phX6_backFrom = true := by decide +kernel
set_option maxRecDepth 100000 in
theorem ok_X6_tearAt : pgChkM m_X6_tearAt phX6_tearAt = true := by decide +kernel
set_option maxRecDepth 100000 in
theorem ok_X6_take : pgChkM m_X6_take phX6_take = true := by decide +kernel
set_option maxRecDepth 100000 in
theorem ok_X6_dropRoute : pgChkM m_X6_dropRoute phX6_dropRoute = true := by decide +kernel
set_option maxRecDepth 100000 in
theorem ok_X6_routeNet : pgChkM m_X6_routeNet phX6_routeNet = true := by decide +kernel
set_option maxRecDepth 100000 in
theorem ok_X6_run : pgChkM m_X6_run phX6_run = true := by decide +kernel
set_option maxRecDepth 100000 in
theorem ok_X6_isLeft : pgChkM m_X6_isLeft phX6_isLeft = true := by decide +kernel
set_option maxRecDepth 100000 in
theorem ok_X6_stands : pgChkM m_X6_stands phX6_stands = true := by decide +kernel
set_option maxRecDepth 100000 in
theorem ok_X6_piece : pgChkM m_X6_piece phX6_piece = true := by decide +kernel
set_option maxRecDepth 100000 in
theorem ok_X6_chosen : pgChkM m_X6_chosen phX6_chosen = true := by decide +kernel
set_option maxRecDepth 100000 in
theorem ok_X6_open : pgChkM m_X6_open phX6_open = true := by decide +kernel
set_option maxRecDepth 100000 in
theorem ok_X6_joined : pgChkM m_X6_joined phX6_joined = true := by decide +kernel
set_option maxRecDepth 100000 in
theorem ok_X6_findStanding : pgChkM m_X6_findStanding phX6_findStanding = true := by decide +kernel
set_option maxRecDepth 100000 in
theorem ok_X6_isBroken : pgChkM m_X6_isBroken phX6_isBroken = true := by decide +kernel
set_option maxRecDepth 100000 in
theorem ok_X6_broken : pgChkM m_X6_broken phX6_broken = true := by decide +kernel
set_option maxRecDepth 100000 in
theorem ok_X6_history : pgChkM m_X6_history phX6_history = true := by decide +kernel
set_option maxRecDepth 100000 in
theorem ok_X6_count : pgChkM m_X6_count phX6_count = true := by decide +kernel
set_option maxRecDepth 100000 in
theorem ok_L_cell : pgChkM m_L_cell phL_cell = true := by decide +kernel
set_option maxRecDepth 100000 in
theorem ok_L_rule : pgChkM m_L_rule phL_rule = true := by decide +kernel
set_option maxRecDepth 100000 in
theorem ok_L_net : pgChkM m_L_net phL_net = true := by decide +kernel
set_option maxRecDepth 100000 in
theorem ok_L_pin : pgChkM m_L_pin phL_pin = true := by decide +kernel
set_option maxRecDepth 100000 in
theorem ok_L_access : pgChkM m_L_access phL_access = true := by decide +kernel
set_option maxRecDepth 100000 in
theorem ok_L_bar : pgChkM m_L_bar phL_bar = true := by decide +kernel
set_option maxRecDepth 100000 in
theorem ok_L_shield : pgChkM m_L_shield phL_shield = true := by decide +kernel
set_option maxRecDepth 100000 in
theorem ok_L_run : pgChkM m_L_run phL_run = true := by decide +kernel
set_option maxRecDepth 100000 in
theorem ok_L_piece : pgChkM m_L_piece phL_piece = true := by decide +kernel
set_option maxRecDepth 100000 in
theorem ok_L_chosen : pgChkM m_L_chosen phL_chosen = true := by decide +kernel
set_option maxRecDepth 100000 in
theorem ok_L_open : pgChkM m_L_open phL_open = true := by decide +kernel
set_option maxRecDepth 100000 in
theorem ok_L_joined : pgChkM m_L_joined phL_joined = true := by decide +kernel
set_option maxRecDepth 100000 in
theorem ok_L_broken : pgChkM m_L_broken phL_broken = true := by decide +kernel
set_option maxRecDepth 100000 in
theorem ok_L_history : pgChkM m_L_history phL_history = true := by decide +kernel
set_option maxRecDepth 100000 in
theorem ok_L_count : pgChkM m_L_count phL_count = true := by decide +kernel
end
section
set_option maxRecDepth 100000 in
theorem ok_L_law_0 : pcL_law_0.all (fun e => pgChk (pgHint phL_law e.1) m_L_law (pgAt m_L_law) e) = true := by decide +kernel
set_option maxRecDepth 100000 in
theorem ok_L_law_1 : pcL_law_1.all (fun e => pgChk (pgHint phL_law e.1) m_L_law (pgAt m_L_law) e) = true := by decide +kernel
set_option maxRecDepth 100000 in
theorem ok_L_law_2 : pcL_law_2.all (fun e => pgChk (pgHint phL_law e.1) m_L_law (pgAt m_L_law) e) = true := by decide +kernel
set_option maxRecDepth 100000 in
theorem ok_L_law_3 : pcL_law_3.all (fun e => pgChk (pgHint phL_law e.1) m_L_law (pgAt m_L_law) e) = true := by decide +kernel
set_option maxRecDepth 100000 in
theorem ok_L_law_4 : pcL_law_4.all (fun e => pgChk (pgHint phL_law e.1) m_L_law (pgAt m_L_law) e) = true := by decide +kernel
set_option maxRecDepth 100000 in
theorem ok_L_law_5 : pcL_law_5.all (fun e => pgChk (pgHint phL_law e.1) m_L_law (pgAt m_L_law) e) = true := by decide +kernel
set_option maxRecDepth 100000 in
theorem ok_L_law_6 : pcL_law_6.all (fun e => pgChk (pgHint phL_law e.1) m_L_law (pgAt m_L_law) e) = true := by decide +kernel
set_option maxRecDepth 100000 in
theorem ok_L_law_7 : pcL_law_7.all (fun e => pgChk (pgHint phL_law e.1) m_L_law (pgAt m_L_law) e) = true := by decide +kernel
set_option maxRecDepth 100000 in
theorem ok_L_law_8 : pcL_law_8.all (fun e => pgChk (pgHint phL_law e.1) m_L_law (pgAt m_L_law) e) = true := by decide +kernel
set_option maxRecDepth 100000 in
theorem ok_L_law_9 : pcL_law_9.all (fun e => pgChk (pgHint phL_law e.1) m_L_law (pgAt m_L_law) e) = true := by decide +kernel
set_option maxRecDepth 100000 in
theorem ok_L_law_10 : pcL_law_10.all (fun e => pgChk (pgHint phL_law e.1) m_L_law (pgAt m_L_law) e) = true := by decide +kernel
set_option maxRecDepth 100000 in
theorem ok_L_law_11 : pcL_law_11.all (fun e => pgChk (pgHint phL_law e.1) m_L_law (pgAt m_L_law) e) = true := by decide +kernel
set_option maxRecDepth 100000 in
theorem ok_L_law_12 : pcL_law_12.all (fun e => pgChk (pgHint phL_law e.1) m_L_law (pgAt m_L_law) e) = true := by decide +kernel
set_option maxRecDepth 100000 in
theorem ok_L_law_13 : pcL_law_13.all (fun e => pgChk (pgHint phL_law e.1) m_L_law (pgAt m_L_law) e) = true := by decide +kernel
set_option maxRecDepth 100000 in
theorem ok_L_law_14 : pcL_law_14.all (fun e => pgChk (pgHint phL_law e.1) m_L_law (pgAt m_L_law) e) = true := by decide +kernel
end
section
set_option maxRecDepth 100000 in
theorem ok_L_law_15 : pcL_law_15.all (fun e => pgChk (pgHint phL_law e.1) m_L_law (pgAt m_L_law) e) = true := by decide +kernel
set_option maxRecDepth 100000 in
theorem ok_L_law_16 : pcL_law_16.all (fun e => pgChk (pgHint phL_law e.1) m_L_law (pgAt m_L_law) e) = true := by decide +kernel
set_option maxRecDepth 100000 in
theorem ok_L_law_17 : pcL_law_17.all (fun e => pgChk (pgHint phL_law e.1) m_L_law (pgAt m_L_law) e) = true := by decide +kernel
set_option maxRecDepth 100000 in
theorem ok_L_law_18 : pcL_law_18.all (fun e => pgChk (pgHint phL_law e.1) m_L_law (pgAt m_L_law) e) = true := by decide +kernel
set_option maxRecDepth 100000 in
theorem ok_L_law_19 : pcL_law_19.all (fun e => pgChk (pgHint phL_law e.1) m_L_law (pgAt m_L_law) e) = true := by decide +kernel
set_option maxRecDepth 100000 in
theorem ok_L_law_20 : pcL_law_20.all (fun e => pgChk (pgHint phL_law e.1) m_L_law (pgAt m_L_law) e) = true := by decide +kernel
set_option maxRecDepth 100000 in
theorem ok_L_law_21 : pcL_law_21.all (fun e => pgChk (pgHint phL_law e.1) m_L_law (pgAt m_L_law) e) = true := by decide +kernel
set_option maxRecDepth 100000 in
theorem ok_L_law_22 : pcL_law_22.all (fun e => pgChk (pgHint phL_law e.1) m_L_law (pgAt m_L_law) e) = true := by decide +kernel
set_option maxRecDepth 100000 in
theorem ok_L_law_23 : pcL_law_23.all (fun e => pgChk (pgHint phL_law e.1) m_L_law (pgAt m_L_law) e) = true := by decide +kernel
set_option maxRecDepth 100000 in
theorem ok_L_law_24 : pcL_law_24.all (fun e => pgChk (pgHint phL_law e.1) m_L_law (pgAt m_L_law) e) = true := by decide +kernel
set_option maxRecDepth 100000 in
theorem ok_L_law_25 : pcL_law_25.all (fun e => pgChk (pgHint phL_law e.1) m_L_law (pgAt m_L_law) e) = true := by decide +kernel
set_option maxRecDepth 100000 in
theorem ok_L_law_26 : pcL_law_26.all (fun e => pgChk (pgHint phL_law e.1) m_L_law (pgAt m_L_law) e) = true := by decide +kernel
set_option maxRecDepth 100000 in
theorem ok_L_law_27 : pcL_law_27.all (fun e => pgChk (pgHint phL_law e.1) m_L_law (pgAt m_L_law) e) = true := by decide +kernel
set_option maxRecDepth 100000 in
theorem ok_L_law_28 : pcL_law_28.all (fun e => pgChk (pgHint phL_law e.1) m_L_law (pgAt m_L_law) e) = true := by decide +kernel
set_option maxRecDepth 100000 in
theorem ok_L_law_29 : pcL_law_29.all (fun e => pgChk (pgHint phL_law e.1) m_L_law (pgAt m_L_law) e) = true := by decide +kernel
end
section
set_option maxRecDepth 100000 in
theorem ok_L_law_30 : pcL_law_30.all (fun e => pgChk (pgHint phL_law e.1) m_L_law (pgAt m_L_law) e) = true := by decide +kernel
set_option maxRecDepth 100000 in
theorem ok_L_law_31 : pcL_law_31.all (fun e => pgChk (pgHint phL_law e.1) m_L_law (pgAt m_L_law) e) = true := by decide +kernel
set_option maxRecDepth 100000 in
theorem ok_L_law_32 : pcL_law_32.all (fun e => pgChk (pgHint phL_law e.1) m_L_law (pgAt m_L_law) e) = true := by decide +kernel
set_option maxRecDepth 100000 in
theorem ok_L_law_33 : pcL_law_33.all (fun e => pgChk (pgHint phL_law e.1) m_L_law (pgAt m_L_law) e) = true := by decide +kernel
set_option maxRecDepth 100000 in
theorem ok_L_law_34 : pcL_law_34.all (fun e => pgChk (pgHint phL_law e.1) m_L_law (pgAt m_L_law) e) = true := by decide +kernel
set_option maxRecDepth 100000 in
theorem ok_L_law_35 : pcL_law_35.all (fun e => pgChk (pgHint phL_law e.1) m_L_law (pgAt m_L_law) e) = true := by decide +kernel
set_option maxRecDepth 100000 in
theorem ok_L_law_36 : pcL_law_36.all (fun e => pgChk (pgHint phL_law e.1) m_L_law (pgAt m_L_law) e) = true := by decide +kernel
set_option maxRecDepth 100000 in
theorem ok_L_law_37 : pcL_law_37.all (fun e => pgChk (pgHint phL_law e.1) m_L_law (pgAt m_L_law) e) = true := by decide +kernel
set_option maxRecDepth 100000 in
theorem ok_L_law_38 : pcL_law_38.all (fun e => pgChk (pgHint phL_law e.1) m_L_law (pgAt m_L_law) e) = true := by decide +kernel
set_option maxRecDepth 100000 in
theorem ok_L_law_39 : pcL_law_39.all (fun e => pgChk (pgHint phL_law e.1) m_L_law (pgAt m_L_law) e) = true := by decide +kernel
set_option maxRecDepth 100000 in
theorem ok_L_law_40 : pcL_law_40.all (fun e => pgChk (pgHint phL_law e.1) m_L_law (pgAt m_L_law) e) = true := by decide +kernel
set_option maxRecDepth 100000 in
theorem ok_L_law_41 : pcL_law_41.all (fun e => pgChk (pgHint phL_law e.1) m_L_law (pgAt m_L_law) e) = true := by decide +kernel
set_option maxRecDepth 100000 in
theorem ok_L_law_42 : pcL_law_42.all (fun e => pgChk (pgHint phL_law e.1) m_L_law (pgAt m_L_law) e) = true := by decide +kernel
set_option maxRecDepth 100000 in
theorem ok_L_law_43 : pcL_law_43.all (fun e => pgChk (pgHint phL_law e.1) m_L_law (pgAt m_L_law) e) = true := by decide +kernel
set_option maxRecDepth 100000 in
theorem ok_L_law_44 : pcL_law_44.all (fun e => pgChk (pgHint phL_law e.1) m_L_law (pgAt m_L_law) e) = true := by decide +kernel
end
section
theorem ok_L_law : pgChkM m_L_law phL_law = true := by
  show pcL_law.all (fun c => c.all (fun e => pgChk (pgHint phL_law e.1) m_L_law (pgAt m_L_law) e)) = true
  simp only [pcL_law, List.all_cons, List.all_nil, ok_L_law_0, ok_L_law_1, ok_L_law_2, ok_L_law_3, ok_L_law_4, ok_L_law_5, ok_L_law_6, ok_L_law_7, ok_L_law_8, ok_L_law_9, ok_L_law_10, ok_L_law_11, ok_L_law_12, ok_L_law_13, ok_L_law_14, ok_L_law_15, ok_L_law_16, ok_L_law_17, ok_L_law_18, ok_L_law_19, ok_L_law_20, ok_L_law_21, ok_L_law_22, ok_L_law_23, ok_L_law_24, ok_L_law_25, ok_L_law_26, ok_L_law_27, ok_L_law_28, ok_L_law_29, ok_L_law_30, ok_L_law_31, ok_L_law_32, ok_L_law_33, ok_L_law_34, ok_L_law_35, ok_L_law_36, ok_L_law_37, ok_L_law_38, ok_L_law_39, ok_L_law_40, ok_L_law_41, ok_L_law_42, ok_L_law_43, ok_L_law_44, Bool.and_self]
theorem pgOk : ∀ mid, mid < 140 → ∃ hl, pgChkM mid hl = true
  | 0, _ => ⟨_, ok_J6_bitCount_0f7a4⟩
  | 1, _ => ⟨_, ok_J7_fill_53178⟩
  | 2, _ => ⟨_, ok_X0_init⟩
  | 3, _ => ⟨_, ok_X0_addNet⟩
  | 4, _ => ⟨_, ok_X0_addPin⟩
  | 5, _ => ⟨_, ok_X0_accessPlace⟩
  | 6, _ => ⟨_, ok_X0_hasAccess⟩
  | 7, _ => ⟨_, ok_X0_addAccess⟩
  | 8, _ => ⟨_, ok_X1_init⟩
  | 9, _ => ⟨_, ok_X1_clear⟩
  | 10, _ => ⟨_, ok_X1_offer⟩
  | 11, _ => ⟨_, ok_X1_take⟩
  | 12, _ => ⟨_, ok_X1_sink⟩
  | 13, _ => ⟨_, ok_X1_isBefore⟩
  | 14, _ => ⟨_, ok_X1_put⟩
  | 15, _ => ⟨_, ok_X2_init⟩
  | 16, _ => ⟨_, ok_X2_numberPlaces⟩
  | 17, _ => ⟨_, ok_X2_placeAt⟩
  | 18, _ => ⟨_, ok_X2_close⟩
  | 19, _ => ⟨_, ok_X2_beside⟩
  | 20, _ => ⟨_, ok_X2_stepCost⟩
  | 21, _ => ⟨_, ok_X3_init⟩
  | 22, _ => ⟨_, ok_X3_begin⟩
  | 23, _ => ⟨_, ok_X3_choosePlaces⟩
  | 24, _ => ⟨_, ok_X3_firstFit⟩
  | 25, _ => ⟨_, ok_X3_makeRounds⟩
  | 26, _ => ⟨_, ok_X3_waits⟩
  | 27, _ => ⟨_, ok_X3_someWait⟩
  | 28, _ => ⟨_, ok_X3_route⟩
  | 29, _ => ⟨_, ok_X3_countWay⟩
  | 30, _ => ⟨_, ok_X3_placeOutside⟩
  | 31, _ => ⟨_, ok_X3_findEnd⟩
  | 32, _ => ⟨_, ok_X3_isGoal⟩
  | 33, _ => ⟨_, ok_X3_offerAround⟩
  | 34, _ => ⟨_, ok_X3_entryCost⟩
  | 35, _ => ⟨_, ok_X3_traceBack⟩
  | 36, _ => ⟨_, ok_X3_placeBefore⟩
  | 37, _ => ⟨_, ok_X3_tearUp⟩
  | 38, _ => ⟨_, ok_X3_dropRoute⟩
  | 39, _ => ⟨_, ok_X3_layWay⟩
  | 40, _ => ⟨_, ok_X3_standingAt⟩
  | 41, _ => ⟨_, ok_X3_clashingPlace⟩
  | 42, _ => ⟨_, ok_X3_hasClash⟩
  | 43, _ => ⟨_, ok_X3_openNet⟩
  | 44, _ => ⟨_, ok_X3_whyOpen⟩
  | 45, _ => ⟨_, ok_X4_init⟩
  | 46, _ => ⟨_, ok_X4_clear⟩
  | 47, _ => ⟨_, ok_X4_add⟩
  | 48, _ => ⟨_, ok_X4_mark⟩
  | 49, _ => ⟨_, ok_X4_drop⟩
  | 50, _ => ⟨_, ok_X4_clashing⟩
  | 51, _ => ⟨_, ok_X5_init⟩
  | 52, _ => ⟨_, ok_X5_rule⟩
  | 53, _ => ⟨_, ok_X5_net⟩
  | 54, _ => ⟨_, ok_X5_pin⟩
  | 55, _ => ⟨_, ok_X5_access⟩
  | 56, _ => ⟨_, ok_X5_bar⟩
  | 57, _ => ⟨_, ok_X5_shield⟩
  | 58, _ => ⟨_, ok_X5_run⟩
  | 59, _ => ⟨_, ok_X5_piece⟩
  | 60, _ => ⟨_, ok_X5_chosen⟩
  | 61, _ => ⟨_, ok_X5_open⟩
  | 62, _ => ⟨_, ok_X5_joined⟩
  | 63, _ => ⟨_, ok_X5_broken⟩
  | 64, _ => ⟨_, ok_X5_history⟩
  | 65, _ => ⟨_, ok_X5_count⟩
  | 66, _ => ⟨_, ok_X5_rulesOf⟩
  | 67, _ => ⟨_, ok_X5_needLayer⟩
  | 68, _ => ⟨_, ok_X5_needPlace⟩
  | 69, _ => ⟨_, ok_X5_needNet⟩
  | 70, _ => ⟨_, ok_X5_needPin⟩
  | 71, _ => ⟨_, ok_X5_needWhat⟩
  | 72, _ => ⟨_, ok_X5_needNotBelowZero⟩
  | 73, _ => ⟨_, ok_X5_needRun⟩
  | 74, _ => ⟨_, ok_X5_isIn⟩
  | 75, _ => ⟨_, ok_X6_init⟩
  | 76, _ => ⟨_, ok_X6_thrown⟩
  | 77, _ => ⟨_, ok_X6_clip⟩
  | 78, _ => ⟨_, ok_X6_isIn⟩
  | 79, _ => ⟨_, ok_X6_refuses⟩
  | 80, _ => ⟨_, ok_X6_all⟩
  | 81, _ => ⟨_, ok_X6_placeOf⟩
  | 82, _ => ⟨_, ok_X6_layerOf⟩
  | 83, _ => ⟨_, ok_X6_xOf⟩
  | 84, _ => ⟨_, ok_X6_yOf⟩
  | 85, _ => ⟨_, ok_X6_rule⟩
  | 86, _ => ⟨_, ok_X6_net⟩
  | 87, _ => ⟨_, ok_X6_isNet⟩
  | 88, _ => ⟨_, ok_X6_isPin⟩
  | 89, _ => ⟨_, ok_X6_pin⟩
  | 90, _ => ⟨_, ok_X6_access⟩
  | 91, _ => ⟨_, ok_X6_bar⟩
  | 92, _ => ⟨_, ok_X6_shield⟩
  | 93, _ => ⟨_, ok_X6_apart⟩
  | 94, _ => ⟨_, ok_X6_clashes⟩
  | 95, _ => ⟨_, ok_X6_placeOfPin⟩
  | 96, _ => ⟨_, ok_X6_mayBe⟩
  | 97, _ => ⟨_, ok_X6_pick⟩
  | 98, _ => ⟨_, ok_X6_mark⟩
  | 99, _ => ⟨_, ok_X6_markAll⟩
  | 100, _ => ⟨_, ok_X6_beside⟩
  | 101, _ => ⟨_, ok_X6_stepCost⟩
  | 102, _ => ⟨_, ok_X6_isOpen⟩
  | 103, _ => ⟨_, ok_X6_extra⟩
  | 104, _ => ⟨_, ok_X6_lower⟩
  | 105, _ => ⟨_, ok_X6_goal⟩
  | 106, _ => ⟨_, ok_X6_isDone⟩
  | 107, _ => ⟨_, ok_X6_backFrom⟩
  | 108, _ => ⟨_, ok_X6_tearAt⟩
  | 109, _ => ⟨_, ok_X6_take⟩
  | 110, _ => ⟨_, ok_X6_dropRoute⟩
  | 111, _ => ⟨_, ok_X6_routeNet⟩
  | 112, _ => ⟨_, ok_X6_run⟩
  | 113, _ => ⟨_, ok_X6_isLeft⟩
  | 114, _ => ⟨_, ok_X6_stands⟩
  | 115, _ => ⟨_, ok_X6_piece⟩
  | 116, _ => ⟨_, ok_X6_chosen⟩
  | 117, _ => ⟨_, ok_X6_open⟩
  | 118, _ => ⟨_, ok_X6_joined⟩
  | 119, _ => ⟨_, ok_X6_findStanding⟩
  | 120, _ => ⟨_, ok_X6_isBroken⟩
  | 121, _ => ⟨_, ok_X6_broken⟩
  | 122, _ => ⟨_, ok_X6_history⟩
  | 123, _ => ⟨_, ok_X6_count⟩
  | 124, _ => ⟨_, ok_L_cell⟩
  | 125, _ => ⟨_, ok_L_rule⟩
  | 126, _ => ⟨_, ok_L_net⟩
  | 127, _ => ⟨_, ok_L_pin⟩
  | 128, _ => ⟨_, ok_L_access⟩
  | 129, _ => ⟨_, ok_L_bar⟩
  | 130, _ => ⟨_, ok_L_shield⟩
  | 131, _ => ⟨_, ok_L_run⟩
  | 132, _ => ⟨_, ok_L_piece⟩
  | 133, _ => ⟨_, ok_L_chosen⟩
  | 134, _ => ⟨_, ok_L_open⟩
  | 135, _ => ⟨_, ok_L_joined⟩
  | 136, _ => ⟨_, ok_L_broken⟩
  | 137, _ => ⟨_, ok_L_history⟩
  | 138, _ => ⟨_, ok_L_count⟩
  | 139, _ => ⟨_, ok_L_law⟩
  | n + 140, h => absurd h (by omega)
end
section
/-! ===== the program keeps to its bytes and words ===== -/
set_option maxRecDepth 100000 in
theorem pgClOk : pmClOk vwCl pgTy := by
  intro ci q h
  match ci, h with
  | 0, h => cases h; exact ⟨by decide +kernel, by decide +kernel, by decide +kernel⟩
  | 1, h => cases h; exact ⟨by decide +kernel, by decide +kernel, by decide +kernel⟩
  | 2, h => cases h; exact ⟨by decide +kernel, by decide +kernel, by decide +kernel⟩
  | 3, h => cases h; exact ⟨by decide +kernel, by decide +kernel, by decide +kernel⟩
  | 4, h => cases h; exact ⟨by decide +kernel, by decide +kernel, by decide +kernel⟩
  | 5, h => cases h; exact ⟨by decide +kernel, by decide +kernel, by decide +kernel⟩
  | 6, h => cases h; exact ⟨by decide +kernel, by decide +kernel, by decide +kernel⟩
  | n + 7, h => simp [vwCl] at h
set_option maxRecDepth 100000 in
theorem pgUws : ∀ q ∈ vwCl, (u_ws q.1 q.2.1 q.2.2).all pgMb = true := by
  intro q hq
  simp only [vwCl, List.mem_cons, List.not_mem_nil, or_false] at hq
  rcases hq with rfl | rfl | rfl | rfl | rfl | rfl | rfl <;> decide +kernel
def pgHk (r : pgR) : Bool := match r.2.2.2.1.2.2.1, r.2.2.2.2.1 with
  | [], _ => true
  | [(a, b, h, e)], [(a1, b1, h1, c)] => decide (a = a1) && (decide (b = b1) && (decide (h = h1) && (decide (c ≠ 0) && (pgMb (.classLink r.1.cls c (pgEx e)) && pgEwb (.castable (pgEx e) (pgEx e))))))
  | [(a, b, h, e), (a2, b2, h2, e2)], [(a1, b1, h1, c), (a3, b3, h3, c2)] => (decide (a = a1) && (decide (b = b1) && (decide (h = h1) && (decide (c ≠ 0) && (pgMb (.classLink r.1.cls c (pgEx e)) && pgEwb (.castable (pgEx e) (pgEx e))))))) && ((decide (a2 = a3) && (decide (b2 = b3) && (decide (h2 = h3) && (decide (c2 ≠ 0) && (pgMb (.classLink r.1.cls c2 (pgEx e2)) && pgEwb (.castable (pgEx e2) (pgEx e2))))))) && decide ((pgEx e2, pgEx e) ∈ pgNC))
  | _, _ => false
theorem pgHk_ok {mid : Nat} {M : pmM} (hG : pgG mid = some M) (h : pgHk (pgAt mid) = true) : pmHOk pgD mid M := by
  obtain ⟨hM, -⟩ := pgG_at hG
  subst hM
  intro pc x hp hh
  show ∃ (pre : List ExceptionTableEntry) (z : ExceptionTableEntry) (suf : List ExceptionTableEntry), tableOf (pgAt mid).2.2.2.2.1 = pre ++ z :: suf ∧ _
  unfold pgHk at h
  split at h
  · rename_i e1
    rw [e1] at hh
    cases hh
  · rename_i a b h0 ex a1 b1 h1 c e1 e2
    rw [e1] at hh
    rw [e2]
    simp only [Bool.and_eq_true, decide_eq_true_eq] at h
    obtain ⟨rfl, rfl, rfl, hc, hm, he⟩ := h
    unfold pmHand at hh
    split at hh
    · rename_i hq
      obtain ⟨q1, q2, q3⟩ := hq
      cases hh
      dsimp only at q1 q2 q3
      subst q3
      exact ⟨[], _, [], rfl, fun u hu => (by cases hu), (by simp [covers, q1, q2]), hc, pgMb_in hm mid, pgEw_in he, rfl⟩
    · cases hh
  · rename_i a b h0 ex a2 b2 h2 ex2 a1 b1 h1 c a3 b3 h3 c2 e1 e2
    rw [e1] at hh
    rw [e2]
    simp only [Bool.and_eq_true, decide_eq_true_eq] at h
    obtain ⟨⟨rfl, rfl, rfl, hc, hm, he⟩, ⟨rfl, rfl, rfl, hc2, hm2, he2⟩, hn⟩ := h
    unfold pmHand at hh
    split at hh
    · rename_i hq
      obtain ⟨q1, q2, q3⟩ := hq
      cases hh
      dsimp only at q1 q2 q3
      subst q3
      exact ⟨[], _, _, rfl, fun u hu => (by cases hu), (by simp [covers, q1, q2]), hc, pgMb_in hm mid, pgEw_in he, rfl⟩
    · rename_i hq
      unfold pmHand at hh
      split at hh
      · rename_i hr
        obtain ⟨q1, q2, q3⟩ := hr
        cases hh
        dsimp only at q1 q2 q3 hq
        subst q3
        refine ⟨[⟨a, b, h0, c⟩], _, [], rfl, fun u hu => ?_, (by simp [covers, q1, q2]), hc2, pgMb_in hm2 mid, pgEw_in he2, rfl⟩
        rw [List.mem_singleton] at hu
        subst hu
        exact Or.inr ⟨hc, pgEx ex, pgMb_in hm mid, hn⟩
      · cases hh
  · cases h
set_option maxRecDepth 100000 in
theorem pgHkAll : pgL.all pgHk = true := by decide +kernel
theorem pgDOk : pmDOk pgD := by
  refine ⟨pgClOk, fun mid M hM => ?_⟩
  have hM : pgG mid = some M := hM
  obtain ⟨hA, hlt⟩ := pgG_at hM
  refine ⟨fun w hw => pgMb_in hw mid, fun ci q hq w hw => pgMb_in (List.all_eq_true.mp (pgUws q (List.mem_of_getElem? hq)) w hw) mid, pgHk_ok hM ?_, fun pc q hc => ?_⟩
  · have h1 : pgL[mid]? = some (pgAt mid) := by
      rw [List.getElem?_eq_getElem hlt]
      simp [pgAt, List.getElem?_eq_getElem hlt]
    exact List.all_eq_true.mp pgHkAll _ (List.mem_of_getElem? h1)
  · obtain ⟨hl, hk⟩ := pgOk mid hlt
    obtain ⟨c, h1, h2⟩ := pmCode_mem hc
    subst hA
    have h3 := List.all_eq_true.mp (List.all_eq_true.mp hk c h1) (pc, q) h2
    exact pgChk_ok hM h3
end
section
/-! ===== a logic for the pure machine ===== -/
/-- from here it comes to an end with Q -/
def PX (mid pc : Nat) (l : pmL) (st : List Value) (w : pmW) (Q : pmO → pmW → Prop) : Prop := ∃ (o : pmO) (w1 : pmW), (∃ n, ∀ m, n ≤ m → pmRun pgD m mid pc l st w = some (o, w1)) ∧ Q o w1
/-- a method, called with these arguments in this world -/
def MX (mid : Nat) (args : List Value) (w : pmW) (Q : pmO → pmW → Prop) : Prop := ∀ M, pgG mid = some M → PX mid 0 (pmPad M.2.1 (pmEnt args)) [] w Q
theorem PX.mono {mid pc : Nat} {l : pmL} {st : List Value} {w : pmW} {Q Q1 : pmO → pmW → Prop} (h : PX mid pc l st w Q) (hq : ∀ o w1, Q o w1 → Q1 o w1) : PX mid pc l st w Q1 := by
  obtain ⟨o, w1, h1, h2⟩ := h
  exact ⟨o, w1, h1, hq o w1 h2⟩
theorem MX.mono {mid : Nat} {args : List Value} {w : pmW} {Q Q1 : pmO → pmW → Prop} (h : MX mid args w Q) (hq : ∀ o w1, Q o w1 → Q1 o w1) : MX mid args w Q1 := fun M hM => (h M hM).mono hq
section PXA
variable {mid pc pc1 x y n : Nat} {k : Int32} {i : Instr} {M : pmM} {l l1 : pmL} {st st1 : List Value} {w w1 : pmW} {Q : pmO → pmW → Prop}
set_option maxHeartbeats 2000000 in
theorem pmX_A (hG : pgG mid = some M) (hc : pmCode M pc = some (i, x, y, k)) (h : pmA i x k pc l st = some (pc1, l1, st1)) : pmRun pgD (n + 1) mid pc l st w = pmRun pgD n mid pc1 l1 st1 w := by
  generalize hZ : pmRun pgD n mid pc1 l1 st1 w = Z
  show pmX (dty pgD) (pmN (dcl pgD)) (dG pgD) (n + 1) mid pc l st w = Z
  unfold pmX
  rw [show dG pgD mid = some M from hG]
  dsimp only
  rw [hc]
  dsimp only
  split
  all_goals first
    | (simp only [pmA] at h; cases h; done)
    | (rw [h]; exact hZ)
set_option maxHeartbeats 2000000 in
theorem pmX_B (hG : pgG mid = some M) (hc : pmCode M pc = some (i, x, y, k)) (h0 : pmA i x k pc l st = none) (h : pmB pgTy (pmN vwCl) i x y pc l st w = some (pc1, l1, st1, w1)) : pmRun pgD (n + 1) mid pc l st w = pmRun pgD n mid pc1 l1 st1 w1 := by
  generalize hZ : pmRun pgD n mid pc1 l1 st1 w1 = Z
  show pmX (dty pgD) (pmN (dcl pgD)) (dG pgD) (n + 1) mid pc l st w = Z
  unfold pmX
  rw [show dG pgD mid = some M from hG]
  dsimp only
  rw [hc]
  dsimp only
  split
  all_goals first
    | (simp only [pmB] at h; cases h; done)
    | (rw [h0]; dsimp only; rw [show pmB (dty pgD) (pmN (dcl pgD)) _ x y pc l st w = some (pc1, l1, st1, w1) from h]; exact hZ)
theorem PX.step (h : ∀ n, pmRun pgD (n + 1) mid pc l st w = pmRun pgD n mid pc1 l1 st1 w1) (K : PX mid pc1 l1 st1 w1 Q) : PX mid pc l st w Q := by
  obtain ⟨o, w2, ⟨n, hn⟩, hq⟩ := K
  refine ⟨o, w2, ⟨n + 1, fun m hm => ?_⟩, hq⟩
  obtain ⟨m', rfl⟩ : ∃ m', m = m' + 1 := ⟨m - 1, by omega⟩
  rw [h m']
  exact hn m' (by omega)
end PXA
/-- k steps that are no calls and no ends -/
def pmGo (M : pmM) : Nat → Nat → pmL → List Value → pmW → Option (Nat × pmL × List Value × pmW)
  | 0, pc, l, st, w => some (pc, l, st, w)
  | n + 1, pc, l, st, w => match pmCode M pc with
    | none => none
    | some (i, x, y, k) => match pmA i x k pc l st with
      | some (pc1, l1, st1) => pmGo M n pc1 l1 st1 w
      | none => match pmB pgTy (pmN vwCl) i x y pc l st w with
        | some (pc1, l1, st1, w1) => pmGo M n pc1 l1 st1 w1
        | none => none
theorem px_go {mid : Nat} {M : pmM} (hG : pgG mid = some M) {Q : pmO → pmW → Prop} {pc1 : Nat} {l1 : pmL} {st1 : List Value} {w1 : pmW} : ∀ (k pc : Nat) (l : pmL) (st : List Value) (w : pmW), pmGo M k pc l st w = some (pc1, l1, st1, w1) → PX mid pc1 l1 st1 w1 Q → PX mid pc l st w Q
  | 0, pc, l, st, w, h, K => by cases h; exact K
  | k + 1, pc, l, st, w, h, K => by
    unfold pmGo at h
    split at h
    · cases h
    · rename_i i x y c hc
      split at h
      · rename_i pc2 l2 st2 hA
        exact PX.step (fun n => pmX_A hG hc hA) (px_go hG k pc2 l2 st2 w h K)
      · rename_i hA
        split at h
        · rename_i pc2 l2 st2 w2 hB
          exact PX.step (fun n => pmX_B hG hc hA hB) (px_go hG k pc2 l2 st2 w2 h K)
        · cases h
section PXB
variable {mid pc x y : Nat} {k : Int32} {M : pmM} {l : pmL} {st r : List Value} {w : pmW} {Q : pmO → pmW → Prop}
def pmCnd : ClassFile.Cond → Int32 → Prop
  | .eq, v => v = 0
  | .ne, v => v ≠ 0
  | .lt, v => v < 0
  | .ge, v => 0 ≤ v
  | .gt, v => 0 < v
  | .le, v => v ≤ 0
def pmCnd2 : ClassFile.Cond → Int32 → Int32 → Prop
  | .eq, u, v => u = v
  | .ne, u, v => u ≠ v
  | .lt, u, v => u < v
  | .ge, u, v => v ≤ u
  | .gt, u, v => v < u
  | .le, u, v => u ≤ v
theorem px_if {cd : ClassFile.Cond} {off : Int} {v : Int32} (hG : pgG mid = some M) (hc : pmCode M pc = some (.ifCond cd off, x, y, k)) (kt : pmCnd cd v → PX mid x l r w Q) (kf : ¬ pmCnd cd v → PX mid (pc + 3) l r w Q) : PX mid pc l (.int v :: r) w Q := by
  by_cases h : pmCnd cd v
  · refine PX.step (fun n => pmX_A hG hc (pc1 := x) (l1 := l) (st1 := r) ?_) (kt h)
    cases cd <;> simp only [pmA, pmCnd] at h ⊢ <;> rw [if_pos h]
  · refine PX.step (fun n => pmX_A hG hc (pc1 := pc + 3) (l1 := l) (st1 := r) ?_) (kf h)
    cases cd <;> simp only [pmA, pmCnd] at h ⊢ <;> rw [if_neg h]
theorem px_cmp {cd : ClassFile.Cond} {off : Int} {u v : Int32} (hG : pgG mid = some M) (hc : pmCode M pc = some (.if_icmp cd off, x, y, k)) (kt : pmCnd2 cd u v → PX mid x l r w Q) (kf : ¬ pmCnd2 cd u v → PX mid (pc + 3) l r w Q) : PX mid pc l (.int v :: .int u :: r) w Q := by
  by_cases h : pmCnd2 cd u v
  · refine PX.step (fun n => pmX_A hG hc (pc1 := x) (l1 := l) (st1 := r) ?_) (kt h)
    cases cd <;> simp only [pmA, pmCnd2] at h ⊢ <;> rw [if_pos h]
  · refine PX.step (fun n => pmX_A hG hc (pc1 := pc + 3) (l1 := l) (st1 := r) ?_) (kf h)
    cases cd <;> simp only [pmA, pmCnd2] at h ⊢ <;> rw [if_neg h]
theorem px_iald {j : Int32} {a n : Nat} (hG : pgG mid = some M) (hc : pmCode M pc = some (.iaload, x, y, k)) (hh : pmh w a = .inl (.int, n)) (ha : a ≤ pmn w) {i : Nat} (hj : j = nI i) (hi : i < n) (hn : n < 2 ^ 31) (K : PX mid (pc + 1) l (.int (pmi w a i) :: r) w Q) : PX mid pc l (.int j :: .ref a :: r) w Q := by
  subst hj
  have e : (nI i).toNatClampNeg = i := nI_clamp (by omega)
  refine PX.step (fun m => pmX_B hG hc (pc1 := pc + 1) (l1 := l) (st1 := .int (pmi w a i) :: r) (w1 := w) rfl ?_) K
  simp only [pmB]
  rw [hh]
  dsimp only
  rw [if_pos ha, if_neg (nI_in hi hn), e]
theorem px_bald {j : Int32} {a n : Nat} (hG : pgG mid = some M) (hc : pmCode M pc = some (.baload, x, y, k)) (hh : pmh w a = .inl (.boolean, n)) (ha : 1 ≤ a ∧ a ≤ pmn w) {i : Nat} (hj : j = nI i) (hi : i < n) (hn : n < 2 ^ 31) (K : PX mid (pc + 1) l (.int (pmi w a i) :: r) w Q) : PX mid pc l (.int j :: .ref a :: r) w Q := by
  subst hj
  have e : (nI i).toNatClampNeg = i := nI_clamp (by omega)
  refine PX.step (fun m => pmX_B hG hc (pc1 := pc + 1) (l1 := l) (st1 := .int (pmi w a i) :: r) (w1 := w) rfl ?_) K
  simp only [pmB]
  rw [hh]
  dsimp only
  rw [if_pos ha, if_neg (nI_in hi hn), e]
theorem px_iast {j v : Int32} {a n : Nat} (hG : pgG mid = some M) (hc : pmCode M pc = some (.iastore, x, y, k)) (hh : pmh w a = .inl (.int, n)) (ha : 1 ≤ a ∧ a ≤ pmn w) {i : Nat} (hj : j = nI i) (hi : i < n) (hn : n < 2 ^ 31)
    (K : PX mid (pc + 1) l r (w.1, w.2.1, w.2.2.1, w.2.2.2.1, w.2.2.2.2.1, pmUI w.2.2.2.2.2.1 a i v, w.2.2.2.2.2.2) Q) : PX mid pc l (.int v :: .int j :: .ref a :: r) w Q := by
  subst hj
  have e : (nI i).toNatClampNeg = i := nI_clamp (by omega)
  refine PX.step (fun m => pmX_B hG hc (pc1 := pc + 1) (l1 := l) (st1 := r) (w1 := (w.1, w.2.1, w.2.2.1, w.2.2.2.1, w.2.2.2.2.1, pmUI w.2.2.2.2.2.1 a i v, w.2.2.2.2.2.2)) rfl ?_) K
  simp only [pmB]
  rw [hh]
  dsimp only
  rw [if_pos ha, if_neg (nI_in hi hn), e]
theorem px_bast {j v : Int32} {a n : Nat} (hG : pgG mid = some M) (hc : pmCode M pc = some (.bastore, x, y, k)) (hh : pmh w a = .inl (.boolean, n)) (ha : 1 ≤ a ∧ a ≤ pmn w) {i : Nat} (hj : j = nI i) (hi : i < n) (hn : n < 2 ^ 31)
    (K : PX mid (pc + 1) l r (w.1, w.2.1, w.2.2.1, w.2.2.2.1, w.2.2.2.2.1, pmUI w.2.2.2.2.2.1 a i (vp_nar .boolean v), w.2.2.2.2.2.2) Q) : PX mid pc l (.int v :: .int j :: .ref a :: r) w Q := by
  subst hj
  have e : (nI i).toNatClampNeg = i := nI_clamp (by omega)
  refine PX.step (fun m => pmX_B hG hc (pc1 := pc + 1) (l1 := l) (st1 := r) (w1 := (w.1, w.2.1, w.2.2.1, w.2.2.2.1, w.2.2.2.2.1, pmUI w.2.2.2.2.2.1 a i (vp_nar .boolean v), w.2.2.2.2.2.2)) rfl ?_) K
  simp only [pmB]
  rw [hh]
  dsimp only
  rw [if_pos ha, if_neg (nI_in hi hn), e]
theorem PX.ends {o : pmO} {w1 : pmW} (h : ∀ n, pmRun pgD (n + 1) mid pc l st w = some (o, w1)) (hq : Q o w1) : PX mid pc l st w Q :=
  ⟨o, w1, ⟨1, fun m hm => by obtain ⟨m', rfl⟩ : ∃ m', m = m' + 1 := ⟨m - 1, by omega⟩; exact h m'⟩, hq⟩
theorem px_iret {v : Int32} (hG : pgG mid = some M) (hc : pmCode M pc = some (.ireturn, x, y, k)) (hy : y = 0 ∨ v = 0 ∨ v = 1) (hq : Q (.inl (some (.int v))) w) : PX mid pc l [.int v] w Q := by
  refine PX.ends (fun n => ?_) hq
  show pmX (dty pgD) (pmN (dcl pgD)) (dG pgD) (n + 1) mid pc l _ w = _
  unfold pmX
  rw [show dG pgD mid = some M from hG]
  dsimp only
  rw [hc]
  dsimp only
  rw [if_pos hy]
theorem px_vret (hG : pgG mid = some M) (hc : pmCode M pc = some (.return_, x, y, k)) (hq : Q (.inl none) w) : PX mid pc l [] w Q := by
  refine PX.ends (fun n => ?_) hq
  show pmX (dty pgD) (pmN (dcl pgD)) (dG pgD) (n + 1) mid pc l _ w = _
  unfold pmX
  rw [show dG pgD mid = some M from hG]
  dsimp only
  rw [hc]
theorem px_aret {a : Nat} (hG : pgG mid = some M) (hc : pmCode M pc = some (.areturn, x, y, k)) (hq : Q (.inl (some (.ref a))) w) : PX mid pc l [.ref a] w Q := by
  refine PX.ends (fun n => ?_) hq
  show pmX (dty pgD) (pmN (dcl pgD)) (dG pgD) (n + 1) mid pc l _ w = _
  unfold pmX
  rw [show dG pgD mid = some M from hG]
  dsimp only
  rw [hc]
theorem px_throw (hG : pgG mid = some M) (hc : pmCode M pc = some (.athrow, x, y, k)) (hM : M.2.2.1 = []) (hs : pmSum st ≤ 8) (hq : Q (.inr x) (pmBmp w)) : PX mid pc l st w Q := by
  refine PX.ends (fun n => ?_) hq
  show pmX (dty pgD) (pmN (dcl pgD)) (dG pgD) (n + 1) mid pc l _ w = _
  unfold pmX
  rw [show dG pgD mid = some M from hG]
  dsimp only
  rw [hc]
  dsimp only
  rw [hM]
  dsimp only
  rw [if_pos hs]
end PXB
section PXC
variable {mid pc x y : Nat} {k : Int32} {M M2 : pmM} {l : pmL} {st rest As : List Value} {w : pmW} {Q Q1 : pmO → pmW → Prop} {idx : Nat}
theorem pm_split (hst : st = As.reverse ++ rest) (hy : As.length = y) : y ≤ st.length ∧ st.drop y = rest ∧ (st.take y).reverse = As := by
  subst hst
  subst hy
  refine ⟨by simp, ?_, ?_⟩
  · rw [show As.length = As.reverse.length by simp, List.drop_left]
  · rw [show As.length = As.reverse.length by simp, List.take_left, List.reverse_reverse]
theorem px_callS (hG : pgG mid = some M) (hc : pmCode M pc = some (.invokestatic idx, x, y, k)) (hG2 : pgG x = some M2) (hst : st = As.reverse ++ rest) (hy : As.length = y) (hs : pmSum rest ≤ 8) (he : (pmEnt As).length ≤ M2.2.1) (hM : MX x As w Q1)
    (kr : ∀ o w1, Q1 o w1 → ∃ v, o = .inl v ∧ PX mid (pc + 3) l (v.toList ++ rest) w1 Q) : PX mid pc l st w Q := by
  obtain ⟨h1, h2, h3⟩ := pm_split hst hy
  obtain ⟨o, w1, ⟨n, hn⟩, hq⟩ := hM M2 hG2
  obtain ⟨v, rfl, o2, w2, ⟨n2, hn2⟩, hq2⟩ := kr o w1 hq
  refine ⟨o2, w2, ⟨max n n2 + 1, fun m hm => ?_⟩, hq2⟩
  obtain ⟨m', rfl⟩ : ∃ m', m = m' + 1 := ⟨m - 1, by omega⟩
  have e1 := hn m' (by omega)
  have e2 := hn2 m' (by omega)
  show pmX (dty pgD) (pmN (dcl pgD)) (dG pgD) (m' + 1) mid pc l _ w = _
  unfold pmX
  rw [show dG pgD mid = some M from hG]
  dsimp only
  rw [hc]
  dsimp only
  rw [show dG pgD x = some M2 from hG2]
  dsimp only
  rw [h2, h3, if_pos ⟨h1, hs, he⟩]
  rw [show pmX (dty pgD) (pmN (dcl pgD)) (dG pgD) m' x 0 (pmPad M2.2.1 (pmEnt As)) [] w = some (.inl v, w1) from e1]
  exact e2
theorem px_callI (hG : pgG mid = some M) (hc : pmCode M pc = some (.invokespecial idx, x, y, k)) (hG2 : pgG x = some M2) {a : Nat} (hst : st = As.reverse ++ .ref a :: rest) (hy : As.length + 1 = y) (hs : pmSum rest ≤ 8) (he : (pmEnt (.ref a :: As)).length ≤ M2.2.1) (hM : MX x (.ref a :: As) w Q1)
    (kr : ∀ o w1, Q1 o w1 → ∃ v, o = .inl v ∧ PX mid (pc + 3) l (v.toList ++ rest) w1 Q) : PX mid pc l st w Q := by
  have hst2 : st = (.ref a :: As).reverse ++ rest := by rw [hst]; simp
  obtain ⟨h1, h2, h3⟩ := pm_split hst2 hy
  have h4 : pmRf1 st y = true := by
    unfold pmRf1
    rw [show st.drop (y - 1) = .ref a :: rest by rw [hst, show y - 1 = As.reverse.length by simp; omega, List.drop_left]]
  obtain ⟨o, w1, ⟨n, hn⟩, hq⟩ := hM M2 hG2
  obtain ⟨v, rfl, o2, w2, ⟨n2, hn2⟩, hq2⟩ := kr o w1 hq
  refine ⟨o2, w2, ⟨max n n2 + 1, fun m hm => ?_⟩, hq2⟩
  obtain ⟨m', rfl⟩ : ∃ m', m = m' + 1 := ⟨m - 1, by omega⟩
  have e1 := hn m' (by omega)
  have e2 := hn2 m' (by omega)
  show pmX (dty pgD) (pmN (dcl pgD)) (dG pgD) (m' + 1) mid pc l _ w = _
  unfold pmX
  rw [show dG pgD mid = some M from hG]
  dsimp only
  rw [hc]
  dsimp only
  rw [show dG pgD x = some M2 from hG2]
  dsimp only
  rw [h2, h3, if_pos ⟨h1, by omega, hs, h4, he⟩]
  rw [show pmX (dty pgD) (pmN (dcl pgD)) (dG pgD) m' x 0 (pmPad M2.2.1 (pmEnt (.ref a :: As))) [] w = some (.inl v, w1) from e1]
  exact e2
theorem px_callV (hG : pgG mid = some M) (hc : pmCode M pc = some (.invokevirtual idx, x, y, k)) (hG2 : pgG x = some M2) {a : Nat} (hst : st = As.reverse ++ .ref a :: rest) (hy : As.length + 1 = y) (hs : pmSum rest ≤ 8) (he : (pmEnt (.ref a :: As)).length ≤ M2.2.1) (hh : pmh w a = .inr M2.2.2.2) (ha : 1 ≤ a ∧ a ≤ pmn w) (hM : MX x (.ref a :: As) w Q1)
    (kr : ∀ o w1, Q1 o w1 → (∃ v, o = .inl v ∧ PX mid (pc + 3) l (v.toList ++ rest) w1 Q) ∨ (∃ ex, o = .inr ex ∧ M.2.2.1 = [] ∧ Q (.inr ex) w1)) : PX mid pc l st w Q := by
  have hst2 : st = (.ref a :: As).reverse ++ rest := by rw [hst]; simp
  obtain ⟨h1, h2, h3⟩ := pm_split hst2 hy
  have h4 : pmRc w M2.2.2.2 st y = true := by
    unfold pmRc
    rw [show st.drop (y - 1) = .ref a :: rest by rw [hst, show y - 1 = As.reverse.length by simp; omega, List.drop_left]]
    dsimp only
    rw [hh]
    simp only [Bool.and_eq_true, Nat.beq_refl, Nat.ble_eq, true_and]
    exact ha
  obtain ⟨o, w1, ⟨n, hn⟩, hq⟩ := hM M2 hG2
  rcases kr o w1 hq with ⟨v, rfl, o2, w2, ⟨n2, hn2⟩, hq2⟩ | ⟨ex, rfl, hno, hq2⟩
  · refine ⟨o2, w2, ⟨max n n2 + 1, fun m hm => ?_⟩, hq2⟩
    obtain ⟨m', rfl⟩ : ∃ m', m = m' + 1 := ⟨m - 1, by omega⟩
    have e1 := hn m' (by omega)
    have e2 := hn2 m' (by omega)
    show pmX (dty pgD) (pmN (dcl pgD)) (dG pgD) (m' + 1) mid pc l _ w = _
    unfold pmX
    rw [show dG pgD mid = some M from hG]
    dsimp only
    rw [hc]
    dsimp only
    rw [show dG pgD x = some M2 from hG2]
    dsimp only
    rw [h2, h3, if_pos ⟨h1, by omega, hs, h4, he⟩]
    rw [show pmX (dty pgD) (pmN (dcl pgD)) (dG pgD) m' x 0 (pmPad M2.2.1 (pmEnt (.ref a :: As))) [] w = some (.inl v, w1) from e1]
    exact e2
  · refine ⟨.inr ex, w1, ⟨n + 1, fun m hm => ?_⟩, hq2⟩
    obtain ⟨m', rfl⟩ : ∃ m', m = m' + 1 := ⟨m - 1, by omega⟩
    have e1 := hn m' (by omega)
    show pmX (dty pgD) (pmN (dcl pgD)) (dG pgD) (m' + 1) mid pc l _ w = _
    unfold pmX
    rw [show dG pgD mid = some M from hG]
    dsimp only
    rw [hc]
    dsimp only
    rw [show dG pgD x = some M2 from hG2]
    dsimp only
    rw [h2, h3, if_pos ⟨h1, by omega, hs, h4, he⟩]
    rw [show pmX (dty pgD) (pmN (dcl pgD)) (dG pgD) m' x 0 (pmPad M2.2.1 (pmEnt (.ref a :: As))) [] w = some (.inr ex, w1) from e1]
    dsimp only
    rw [hno]
/-- Math's own and Object.<init> -/
theorem px_imax {a b : Int32} {r : List Value} (hG : pgG mid = some M) (hc : pmCode M pc = some (.swap, x, y, k)) (hs : pmSum r ≤ 8) (K : PX mid (pc + 3) l (.int (if a < b then b else a) :: r) w Q) : PX mid pc l (.int b :: .int a :: r) w Q := by
  refine PX.step (fun n => ?_) K
  generalize hZ : pmRun pgD n mid (pc + 3) l (.int (if a < b then b else a) :: r) w = Z
  show pmX (dty pgD) (pmN (dcl pgD)) (dG pgD) (n + 1) mid pc l _ w = Z
  unfold pmX
  rw [show dG pgD mid = some M from hG]
  dsimp only
  rw [hc]
  dsimp only
  rw [if_pos hs]
  exact hZ
theorem px_imin {a b : Int32} {r : List Value} (hG : pgG mid = some M) (hc : pmCode M pc = some (.dup_x1, x, y, k)) (hs : pmSum r ≤ 8) (K : PX mid (pc + 3) l (.int (if b < a then b else a) :: r) w Q) : PX mid pc l (.int b :: .int a :: r) w Q := by
  refine PX.step (fun n => ?_) K
  generalize hZ : pmRun pgD n mid (pc + 3) l (.int (if b < a then b else a) :: r) w = Z
  show pmX (dty pgD) (pmN (dcl pgD)) (dG pgD) (n + 1) mid pc l _ w = Z
  unfold pmX
  rw [show dG pgD mid = some M from hG]
  dsimp only
  rw [hc]
  dsimp only
  rw [if_pos hs]
  exact hZ
theorem px_lmax {a b : Int64} {r : List Value} (hG : pgG mid = some M) (hc : pmCode M pc = some (.dup_x2, x, y, k)) (hs : pmSum r ≤ 8) (K : PX mid (pc + 3) l (.long (if b < a then a else b) :: r) w Q) : PX mid pc l (.long b :: .long a :: r) w Q := by
  refine PX.step (fun n => ?_) K
  generalize hZ : pmRun pgD n mid (pc + 3) l (.long (if b < a then a else b) :: r) w = Z
  show pmX (dty pgD) (pmN (dcl pgD)) (dG pgD) (n + 1) mid pc l _ w = Z
  unfold pmX
  rw [show dG pgD mid = some M from hG]
  dsimp only
  rw [hc]
  dsimp only
  rw [if_pos hs]
  exact hZ
theorem px_lmin {a b : Int64} {r : List Value} (hG : pgG mid = some M) (hc : pmCode M pc = some (.dup2_x1, x, y, k)) (hs : pmSum r ≤ 8) (K : PX mid (pc + 3) l (.long (if b < a then b else a) :: r) w Q) : PX mid pc l (.long b :: .long a :: r) w Q := by
  refine PX.step (fun n => ?_) K
  generalize hZ : pmRun pgD n mid (pc + 3) l (.long (if b < a then b else a) :: r) w = Z
  show pmX (dty pgD) (pmN (dcl pgD)) (dG pgD) (n + 1) mid pc l _ w = Z
  unfold pmX
  rw [show dG pgD mid = some M from hG]
  dsimp only
  rw [hc]
  dsimp only
  rw [if_pos hs]
  exact hZ
theorem px_obj {a : Nat} {r : List Value} (hG : pgG mid = some M) (hc : pmCode M pc = some (.nop, x, y, k)) (hs : pmSum r ≤ 8) (K : PX mid (pc + 3) l r w Q) : PX mid pc l (.ref a :: r) w Q := by
  refine PX.step (fun n => ?_) K
  generalize hZ : pmRun pgD n mid (pc + 3) l r w = Z
  show pmX (dty pgD) (pmN (dcl pgD)) (dG pgD) (n + 1) mid pc l _ w = Z
  unfold pmX
  rw [show dG pgD mid = some M from hG]
  dsimp only
  rw [hc]
  dsimp only
  rw [if_pos hs]
  exact hZ
/-- a call whose throw is caught here -/
theorem px_callH (hG : pgG mid = some M) (hc : pmCode M pc = some (.invokevirtual idx, x, y, k)) (hG2 : pgG x = some M2) {a : Nat} (hst : st = As.reverse ++ .ref a :: rest) (hy : As.length + 1 = y) (hs : pmSum rest ≤ 8) (he : (pmEnt (.ref a :: As)).length ≤ M2.2.1) (hh : pmh w a = .inr M2.2.2.2) (ha : 1 ≤ a ∧ a ≤ pmn w) (hM : MX x (.ref a :: As) w Q1) (hne : M.2.2.1 ≠ [])
    (kr : ∀ o w1, Q1 o w1 → (∃ v, o = .inl v ∧ PX mid (pc + 3) l (v.toList ++ rest) w1 Q) ∨ (∃ ex h z, o = .inr ex ∧ pmHand M.2.2.1 pc ex = some h ∧ ((∃ j u c, pmCode M h = some (.astore_n j, z, u, c) ∧ PX mid (h + 1) (pmDel z (pmSet (.int 0) z l)) [] w1 Q) ∨ (∃ j u c, pmCode M h = some (.astore j, z, u, c) ∧ PX mid (h + 2) (pmDel z (pmSet (.int 0) z l)) [] w1 Q)))) : PX mid pc l st w Q := by
  have hst2 : st = (.ref a :: As).reverse ++ rest := by rw [hst]; simp
  obtain ⟨h1, h2, h3⟩ := pm_split hst2 hy
  have h4 : pmRc w M2.2.2.2 st y = true := by
    unfold pmRc
    rw [show st.drop (y - 1) = .ref a :: rest by rw [hst, show y - 1 = As.reverse.length by simp; omega, List.drop_left]]
    dsimp only
    rw [hh]
    simp only [Bool.and_eq_true, Nat.beq_refl, Nat.ble_eq, true_and]
    exact ha
  obtain ⟨o, w1, ⟨n, hn⟩, hq⟩ := hM M2 hG2
  have go : ∀ m', n ≤ m' → ∀ Fn : Nat → pmL → List Value → pmW → Option (pmO × pmW), (∀ a b c d, Fn a b c d = pmRun pgD m' mid a b c d) → pmRun pgD (m' + 1) mid pc l st w = (match (o, w1) with
      | (.inl v, w1) => Fn (pc + 3) l (v.toList ++ rest) w1
      | (.inr ex, w1) => (match M.2.2.1 with
        | [] => some (.inr ex, w1)
        | _ :: _ => (match pmHand M.2.2.1 pc ex with
          | none => none
          | some h => (match pmCode M h with
            | some (.astore_n _, z, _, _) => Fn (h + 1) (pmDel z (pmSet (.int 0) z l)) [] w1
            | some (.astore _, z, _, _) => Fn (h + 2) (pmDel z (pmSet (.int 0) z l)) [] w1
            | _ => none)))) := by
    intro m' hm' Fn hFn
    have e1 := hn m' hm'
    show pmX (dty pgD) (pmN (dcl pgD)) (dG pgD) (m' + 1) mid pc l _ w = _
    unfold pmX
    rw [show dG pgD mid = some M from hG]
    dsimp only
    rw [hc]
    dsimp only
    rw [show dG pgD x = some M2 from hG2]
    dsimp only
    rw [h2, h3, if_pos ⟨h1, by omega, hs, h4, he⟩]
    rw [show pmX (dty pgD) (pmN (dcl pgD)) (dG pgD) m' x 0 (pmPad M2.2.1 (pmEnt (.ref a :: As))) [] w = some (o, w1) from e1]
    have hF2 : Fn = fun a b c d => pmRun pgD m' mid a b c d := by funext a b c d; exact hFn a b c d
    rw [hF2]
    cases o <;> rfl
  have fin : ∀ {pc2 : Nat} {l2 : pmL} {st2 : List Value}, PX mid pc2 l2 st2 w1 Q → (∀ m', n ≤ m' → pmRun pgD (m' + 1) mid pc l st w = pmRun pgD m' mid pc2 l2 st2 w1) → PX mid pc l st w Q := by
    intro pc2 l2 st2 K hk
    obtain ⟨o2, w2, ⟨n2, hn2⟩, hq2⟩ := K
    refine ⟨o2, w2, ⟨max n n2 + 1, fun m hm => ?_⟩, hq2⟩
    obtain ⟨m', rfl⟩ : ∃ m', m = m' + 1 := ⟨m - 1, by omega⟩
    rw [hk m' (by omega)]
    exact hn2 m' (by omega)
  rcases kr o w1 hq with ⟨v, rfl, K⟩ | ⟨ex, h, z, rfl, hh1, hh2⟩
  · exact fin K (fun m' hm' => go m' hm' _ (fun _ _ _ _ => rfl))
  · have hcs : ∃ p q, M.2.2.1 = p :: q := by
      cases hq : M.2.2.1 with
      | nil => exact absurd hq hne
      | cons p q => exact ⟨p, q, rfl⟩
    obtain ⟨p, q, hpq⟩ := hcs
    rcases hh2 with ⟨j, u, c, hc2, K⟩ | ⟨j, u, c, hc2, K⟩
    · refine fin K (fun m' hm' => ?_)
      rw [go m' hm' _ (fun _ _ _ _ => rfl)]
      dsimp only
      rw [hh1]
      rw [hpq]
      dsimp only
      rw [hc2]
    · refine fin K (fun m' hm' => ?_)
      rw [go m' hm' _ (fun _ _ _ _ => rfl)]
      dsimp only
      rw [hh1]
      rw [hpq]
      dsimp only
      rw [hc2]
end PXC
end
section
theorem g_J6_bitCount_0f7a4 : pgG m_J6_bitCount_0f7a4 = some (pcJ6_bitCount_0f7a4, 1, [], 0) := rfl
theorem g_J7_fill_53178 : pgG m_J7_fill_53178 = some (pcJ7_fill_53178, 4, [], 0) := rfl
theorem g_X0_init : pgG m_X0_init = some (pcX0_init, 1, [], 0) := rfl
theorem g_X0_addNet : pgG m_X0_addNet = some (pcX0_addNet, 1, [], 0) := rfl
theorem g_X0_addPin : pgG m_X0_addPin = some (pcX0_addPin, 2, [], 0) := rfl
theorem g_X0_accessPlace : pgG m_X0_accessPlace = some (pcX0_accessPlace, 3, [], 0) := rfl
theorem g_X0_hasAccess : pgG m_X0_hasAccess = some (pcX0_hasAccess, 4, [], 0) := rfl
theorem g_X0_addAccess : pgG m_X0_addAccess = some (pcX0_addAccess, 3, [], 0) := rfl
theorem g_X1_init : pgG m_X1_init = some (pcX1_init, 2, [], 1) := rfl
theorem g_X1_clear : pgG m_X1_clear = some (pcX1_clear, 1, [], 1) := rfl
theorem g_X1_offer : pgG m_X1_offer = some (pcX1_offer, 4, [], 1) := rfl
theorem g_X1_take : pgG m_X1_take = some (pcX1_take, 2, [], 1) := rfl
theorem g_X1_sink : pgG m_X1_sink = some (pcX1_sink, 4, [], 1) := rfl
theorem g_X1_isBefore : pgG m_X1_isBefore = some (pcX1_isBefore, 3, [], 1) := rfl
theorem g_X1_put : pgG m_X1_put = some (pcX1_put, 3, [], 1) := rfl
theorem g_X2_init : pgG m_X2_init = some (pcX2_init, 4, [], 2) := rfl
theorem g_X2_numberPlaces : pgG m_X2_numberPlaces = some (pcX2_numberPlaces, 5, [], 2) := rfl
theorem g_X2_placeAt : pgG m_X2_placeAt = some (pcX2_placeAt, 4, [], 2) := rfl
theorem g_X2_close : pgG m_X2_close = some (pcX2_close, 2, [], 2) := rfl
theorem g_X2_beside : pgG m_X2_beside = some (pcX2_beside, 3, [], 2) := rfl
theorem g_X2_stepCost : pgG m_X2_stepCost = some (pcX2_stepCost, 6, [], 2) := rfl
theorem g_X3_init : pgG m_X3_init = some (pcX3_init, 3, [], 3) := rfl
theorem g_X3_begin : pgG m_X3_begin = some (pcX3_begin, 2, [], 3) := rfl
theorem g_X3_choosePlaces : pgG m_X3_choosePlaces = some (pcX3_choosePlaces, 3, [], 3) := rfl
theorem g_X3_firstFit : pgG m_X3_firstFit = some (pcX3_firstFit, 5, [], 3) := rfl
theorem g_X3_makeRounds : pgG m_X3_makeRounds = some (pcX3_makeRounds, 4, [], 3) := rfl
theorem g_X3_waits : pgG m_X3_waits = some (pcX3_waits, 2, [], 3) := rfl
theorem g_X3_someWait : pgG m_X3_someWait = some (pcX3_someWait, 1, [], 3) := rfl
theorem g_X3_route : pgG m_X3_route = some (pcX3_route, 6, [], 3) := rfl
theorem g_X3_countWay : pgG m_X3_countWay = some (pcX3_countWay, 2, [], 3) := rfl
theorem g_X3_placeOutside : pgG m_X3_placeOutside = some (pcX3_placeOutside, 4, [], 3) := rfl
theorem g_X3_findEnd : pgG m_X3_findEnd = some (pcX3_findEnd, 5, [], 3) := rfl
theorem g_X3_isGoal : pgG m_X3_isGoal = some (pcX3_isGoal, 3, [], 3) := rfl
theorem g_X3_offerAround : pgG m_X3_offerAround = some (pcX3_offerAround, 8, [], 3) := rfl
theorem g_X3_entryCost : pgG m_X3_entryCost = some (pcX3_entryCost, 4, [], 3) := rfl
theorem g_X3_traceBack : pgG m_X3_traceBack = some (pcX3_traceBack, 5, [], 3) := rfl
theorem g_X3_placeBefore : pgG m_X3_placeBefore = some (pcX3_placeBefore, 7, [], 3) := rfl
theorem g_X3_tearUp : pgG m_X3_tearUp = some (pcX3_tearUp, 5, [], 3) := rfl
theorem g_X3_dropRoute : pgG m_X3_dropRoute = some (pcX3_dropRoute, 3, [], 3) := rfl
theorem g_X3_layWay : pgG m_X3_layWay = some (pcX3_layWay, 3, [], 3) := rfl
theorem g_X3_standingAt : pgG m_X3_standingAt = some (pcX3_standingAt, 5, [], 3) := rfl
theorem g_X3_clashingPlace : pgG m_X3_clashingPlace = some (pcX3_clashingPlace, 4, [], 3) := rfl
theorem g_X3_hasClash : pgG m_X3_hasClash = some (pcX3_hasClash, 4, [], 3) := rfl
theorem g_X3_openNet : pgG m_X3_openNet = some (pcX3_openNet, 4, [], 3) := rfl
theorem g_X3_whyOpen : pgG m_X3_whyOpen = some (pcX3_whyOpen, 2, [], 3) := rfl
theorem g_X4_init : pgG m_X4_init = some (pcX4_init, 2, [], 4) := rfl
theorem g_X4_clear : pgG m_X4_clear = some (pcX4_clear, 1, [], 4) := rfl
theorem g_X4_add : pgG m_X4_add = some (pcX4_add, 4, [], 4) := rfl
theorem g_X4_mark : pgG m_X4_mark = some (pcX4_mark, 12, [], 4) := rfl
theorem g_X4_drop : pgG m_X4_drop = some (pcX4_drop, 4, [], 4) := rfl
theorem g_X4_clashing : pgG m_X4_clashing = some (pcX4_clashing, 6, [], 4) := rfl
theorem g_X5_init : pgG m_X5_init = some (pcX5_init, 9, [], 5) := rfl
theorem g_X5_rule : pgG m_X5_rule = some (pcX5_rule, 10, [], 5) := rfl
theorem g_X5_net : pgG m_X5_net = some (pcX5_net, 1, [], 5) := rfl
theorem g_X5_pin : pgG m_X5_pin = some (pcX5_pin, 2, [], 5) := rfl
theorem g_X5_access : pgG m_X5_access = some (pcX5_access, 8, [], 5) := rfl
theorem g_X5_bar : pgG m_X5_bar = some (pcX5_bar, 13, [], 5) := rfl
theorem g_X5_shield : pgG m_X5_shield = some (pcX5_shield, 2, [], 5) := rfl
theorem g_X5_run : pgG m_X5_run = some (pcX5_run, 2, [], 5) := rfl
theorem g_X5_piece : pgG m_X5_piece = some (pcX5_piece, 5, [], 5) := rfl
theorem g_X5_chosen : pgG m_X5_chosen = some (pcX5_chosen, 2, [], 5) := rfl
theorem g_X5_open : pgG m_X5_open = some (pcX5_open, 4, [], 5) := rfl
theorem g_X5_joined : pgG m_X5_joined = some (pcX5_joined, 2, [], 5) := rfl
theorem g_X5_broken : pgG m_X5_broken = some (pcX5_broken, 2, [], 5) := rfl
theorem g_X5_history : pgG m_X5_history = some (pcX5_history, 6, [], 5) := rfl
theorem g_X5_count : pgG m_X5_count = some (pcX5_count, 2, [], 5) := rfl
theorem g_X5_rulesOf : pgG m_X5_rulesOf = some (pcX5_rulesOf, 2, [], 5) := rfl
theorem g_X5_needLayer : pgG m_X5_needLayer = some (pcX5_needLayer, 2, [], 5) := rfl
theorem g_X5_needPlace : pgG m_X5_needPlace = some (pcX5_needPlace, 6, [], 5) := rfl
theorem g_X5_needNet : pgG m_X5_needNet = some (pcX5_needNet, 2, [], 5) := rfl
theorem g_X5_needPin : pgG m_X5_needPin = some (pcX5_needPin, 2, [], 5) := rfl
theorem g_X5_needWhat : pgG m_X5_needWhat = some (pcX5_needWhat, 3, [], 5) := rfl
theorem g_X5_needNotBelowZero : pgG m_X5_needNotBelowZero = some (pcX5_needNotBelowZero, 2, [], 5) := rfl
theorem g_X5_needRun : pgG m_X5_needRun = some (pcX5_needRun, 1, [], 5) := rfl
theorem g_X5_isIn : pgG m_X5_isIn = some (pcX5_isIn, 2, [], 5) := rfl
theorem g_X6_init : pgG m_X6_init = some (pcX6_init, 6, [], 6) := rfl
theorem g_X6_thrown : pgG m_X6_thrown = some (pcX6_thrown, 1, [], 6) := rfl
theorem g_X6_clip : pgG m_X6_clip = some (pcX6_clip, 3, [], 6) := rfl
theorem g_X6_isIn : pgG m_X6_isIn = some (pcX6_isIn, 6, [], 6) := rfl
theorem g_X6_refuses : pgG m_X6_refuses = some (pcX6_refuses, 2, [], 6) := rfl
theorem g_X6_all : pgG m_X6_all = some (pcX6_all, 1, [], 6) := rfl
theorem g_X6_placeOf : pgG m_X6_placeOf = some (pcX6_placeOf, 7, [], 6) := rfl
theorem g_X6_layerOf : pgG m_X6_layerOf = some (pcX6_layerOf, 2, [], 6) := rfl
theorem g_X6_xOf : pgG m_X6_xOf = some (pcX6_xOf, 2, [], 6) := rfl
theorem g_X6_yOf : pgG m_X6_yOf = some (pcX6_yOf, 2, [], 6) := rfl
theorem g_X6_rule : pgG m_X6_rule = some (pcX6_rule, 7, [], 6) := rfl
theorem g_X6_net : pgG m_X6_net = some (pcX6_net, 1, [], 6) := rfl
theorem g_X6_isNet : pgG m_X6_isNet = some (pcX6_isNet, 2, [], 6) := rfl
theorem g_X6_isPin : pgG m_X6_isPin = some (pcX6_isPin, 2, [], 6) := rfl
theorem g_X6_pin : pgG m_X6_pin = some (pcX6_pin, 2, [], 6) := rfl
theorem g_X6_access : pgG m_X6_access = some (pcX6_access, 9, [], 6) := rfl
theorem g_X6_bar : pgG m_X6_bar = some (pcX6_bar, 14, [], 6) := rfl
theorem g_X6_shield : pgG m_X6_shield = some (pcX6_shield, 2, [], 6) := rfl
theorem g_X6_apart : pgG m_X6_apart = some (pcX6_apart, 2, [], 6) := rfl
theorem g_X6_clashes : pgG m_X6_clashes = some (pcX6_clashes, 6, [], 6) := rfl
theorem g_X6_placeOfPin : pgG m_X6_placeOfPin = some (pcX6_placeOfPin, 2, [], 6) := rfl
theorem g_X6_mayBe : pgG m_X6_mayBe = some (pcX6_mayBe, 6, [], 6) := rfl
theorem g_X6_pick : pgG m_X6_pick = some (pcX6_pick, 3, [], 6) := rfl
theorem g_X6_mark : pgG m_X6_mark = some (pcX6_mark, 9, [], 6) := rfl
theorem g_X6_markAll : pgG m_X6_markAll = some (pcX6_markAll, 4, [], 6) := rfl
theorem g_X6_beside : pgG m_X6_beside = some (pcX6_beside, 6, [], 6) := rfl
theorem g_X6_stepCost : pgG m_X6_stepCost = some (pcX6_stepCost, 5, [], 6) := rfl
theorem g_X6_isOpen : pgG m_X6_isOpen = some (pcX6_isOpen, 3, [], 6) := rfl
theorem g_X6_extra : pgG m_X6_extra = some (pcX6_extra, 2, [], 6) := rfl
theorem g_X6_lower : pgG m_X6_lower = some (pcX6_lower, 6, [], 6) := rfl
theorem g_X6_goal : pgG m_X6_goal = some (pcX6_goal, 6, [], 6) := rfl
theorem g_X6_isDone : pgG m_X6_isDone = some (pcX6_isDone, 4, [], 6) := rfl
theorem g_X6_backFrom : pgG m_X6_backFrom = some (pcX6_backFrom, 6, [], 6) := rfl
theorem g_X6_tearAt : pgG m_X6_tearAt = some (pcX6_tearAt, 5, [], 6) := rfl
theorem g_X6_take : pgG m_X6_take = some (pcX6_take, 6, [], 6) := rfl
theorem g_X6_dropRoute : pgG m_X6_dropRoute = some (pcX6_dropRoute, 3, [], 6) := rfl
theorem g_X6_routeNet : pgG m_X6_routeNet = some (pcX6_routeNet, 4, [], 6) := rfl
theorem g_X6_run : pgG m_X6_run = some (pcX6_run, 5, [], 6) := rfl
theorem g_X6_isLeft : pgG m_X6_isLeft = some (pcX6_isLeft, 3, [], 6) := rfl
theorem g_X6_stands : pgG m_X6_stands = some (pcX6_stands, 5, [], 6) := rfl
theorem g_X6_piece : pgG m_X6_piece = some (pcX6_piece, 6, [], 6) := rfl
theorem g_X6_chosen : pgG m_X6_chosen = some (pcX6_chosen, 2, [], 6) := rfl
theorem g_X6_open : pgG m_X6_open = some (pcX6_open, 5, [], 6) := rfl
theorem g_X6_joined : pgG m_X6_joined = some (pcX6_joined, 2, [], 6) := rfl
theorem g_X6_findStanding : pgG m_X6_findStanding = some (pcX6_findStanding, 2, [], 6) := rfl
theorem g_X6_isBroken : pgG m_X6_isBroken = some (pcX6_isBroken, 7, [], 6) := rfl
theorem g_X6_broken : pgG m_X6_broken = some (pcX6_broken, 4, [], 6) := rfl
theorem g_X6_history : pgG m_X6_history = some (pcX6_history, 7, [], 6) := rfl
theorem g_X6_count : pgG m_X6_count = some (pcX6_count, 4, [], 6) := rfl
theorem g_L_cell : pgG m_L_cell = some (pcL_cell, 2, [], 0) := rfl
theorem g_L_rule : pgG m_L_rule = some (pcL_rule, 7, [(0, 19, 22, 0), (0, 19, 26, 1)], 0) := rfl
theorem g_L_net : pgG m_L_net = some (pcL_net, 3, [(0, 8, 11, 2)], 0) := rfl
theorem g_L_pin : pgG m_L_pin = some (pcL_pin, 4, [(0, 9, 12, 0), (0, 9, 15, 2)], 0) := rfl
theorem g_L_access : pgG m_L_access = some (pcL_access, 9, [(0, 21, 24, 0), (0, 21, 28, 2)], 0) := rfl
theorem g_L_bar : pgG m_L_bar = some (pcL_bar, 12, [(0, 24, 27, 0), (0, 24, 31, 1)], 0) := rfl
theorem g_L_shield : pgG m_L_shield = some (pcL_shield, 4, [(0, 16, 19, 0)], 0) := rfl
theorem g_L_run : pgG m_L_run = some (pcL_run, 4, [(0, 9, 12, 1)], 0) := rfl
theorem g_L_piece : pgG m_L_piece = some (pcL_piece, 6, [(0, 12, 15, 0), (0, 12, 19, 2)], 0) := rfl
theorem g_L_chosen : pgG m_L_chosen = some (pcL_chosen, 4, [(0, 9, 12, 0), (0, 9, 15, 2)], 0) := rfl
theorem g_L_open : pgG m_L_open = some (pcL_open, 5, [(0, 10, 13, 0), (0, 10, 17, 2)], 0) := rfl
theorem g_L_joined : pgG m_L_joined = some (pcL_joined, 4, [(0, 16, 19, 0), (0, 16, 22, 2)], 0) := rfl
theorem g_L_broken : pgG m_L_broken = some (pcL_broken, 4, [(0, 9, 12, 0), (0, 9, 15, 2)], 0) := rfl
theorem g_L_history : pgG m_L_history = some (pcL_history, 8, [(0, 13, 16, 0), (0, 13, 20, 2)], 0) := rfl
theorem g_L_count : pgG m_L_count = some (pcL_count, 4, [(0, 9, 12, 0)], 0) := rfl
theorem g_L_law : pgG m_L_law = some (pcL_law, 7, [], 0) := rfl
/-- what the cells are, once class, reference and the law's row of one long are made: L ints in the script, S places -/
def hd0 (L S : Nat) : Nat → (FieldType × Nat) ⊕ Nat
  | 0 => .inl (.int, L)
  | 1 => .inr 5
  | 2 => .inr 2
  | 3 => .inl (.int, 3)
  | 4 => .inl (.int, 3)
  | 5 => .inl (.int, 3)
  | 6 => .inl (.int, S)
  | 7 => .inl (.int, S)
  | 8 => .inl (.int, S)
  | 9 => .inl (.boolean, S)
  | 10 => .inr 0
  | 11 => .inl (.int, 40)
  | 12 => .inl (.int, 16)
  | 13 => .inl (.int, 40)
  | 14 => .inl (.int, 160)
  | 15 => .inr 3
  | 16 => .inl (.int, 40)
  | 17 => .inr 4
  | 18 => .inl (.int, S)
  | 19 => .inl (.int, S)
  | 20 => .inl (.int, S)
  | 21 => .inr 4
  | 22 => .inl (.int, S)
  | 23 => .inl (.int, S)
  | 24 => .inl (.int, S)
  | 25 => .inr 1
  | 26 => .inl (.int, S)
  | 27 => .inl (.int, S)
  | 28 => .inl (.int, S)
  | 29 => .inl (.int, S)
  | 30 => .inl (.int, S)
  | 31 => .inl (.int, S)
  | 32 => .inr 6
  | 33 => .inl (.int, 3)
  | 34 => .inl (.int, 3)
  | 35 => .inl (.int, 3)
  | 36 => .inl (.boolean, 1728)
  | 37 => .inl (.boolean, 16)
  | 38 => .inl (.int, 40)
  | 39 => .inl (.int, 160)
  | 40 => .inl (.int, 40)
  | 41 => .inl (.int, 40)
  | 42 => .inl (.boolean, 16)
  | 43 => .inl (.boolean, 16)
  | 44 => .inl (.int, 16)
  | 45 => .inl (.int, 1728)
  | 46 => .inl (.boolean, 27648)
  | 47 => .inl (.boolean, 27648)
  | 48 => .inl (.boolean, 1728)
  | 49 => .inl (.boolean, 1728)
  | 50 => .inl (.boolean, 1728)
  | 51 => .inl (.boolean, 1728)
  | 52 => .inl (.int, 1728)
  | 53 => .inl (.boolean, 16)
  | 54 => .inl (.boolean, 27648)
  | 55 => .inl (.long, 1)
  | _ => .inl (.int, L)
def R0 : Nat → Nat → Option Nat
  | 1, 0 => some 2
  | 1, 1 => some 10
  | 1, 2 => some 15
  | 2, 5 => some 6
  | 2, 6 => some 7
  | 2, 7 => some 8
  | 2, 8 => some 3
  | 2, 9 => some 4
  | 2, 10 => some 5
  | 2, 11 => some 9
  | 10, 3 => some 11
  | 10, 4 => some 12
  | 10, 5 => some 13
  | 10, 6 => some 14
  | 15, 0 => some 2
  | 15, 1 => some 10
  | 15, 2 => some 17
  | 15, 3 => some 21
  | 15, 4 => some 25
  | 15, 5 => some 16
  | 15, 6 => some 29
  | 15, 7 => some 30
  | 15, 8 => some 31
  | 17, 0 => some 2
  | 17, 1 => some 18
  | 17, 2 => some 19
  | 17, 3 => some 20
  | 21, 0 => some 2
  | 21, 1 => some 22
  | 21, 2 => some 23
  | 21, 3 => some 24
  | 25, 0 => some 26
  | 25, 1 => some 27
  | 25, 2 => some 28
  | 32, 4 => some 33
  | 32, 5 => some 34
  | 32, 6 => some 35
  | 32, 7 => some 36
  | 32, 9 => some 37
  | 32, 11 => some 38
  | 32, 12 => some 39
  | 32, 13 => some 40
  | 32, 15 => some 41
  | 32, 16 => some 42
  | 32, 17 => some 43
  | 32, 18 => some 44
  | 32, 19 => some 45
  | 32, 20 => some 46
  | 32, 21 => some 47
  | 32, 25 => some 48
  | 32, 26 => some 49
  | 32, 27 => some 50
  | 32, 28 => some 51
  | 32, 29 => some 52
  | 32, 30 => some 53
  | 32, 31 => some 54
  | _, _ => none
abbrev wd (nc ns L S : Nat) (I : Nat → Nat → Int32) (J : Nat → Nat → Int64) : pmW := (55, nc, ns, hd0 L S, R0, I, J)
theorem MX.of {mid : Nat} {M : pmM} {args : List Value} {w : pmW} {Q : pmO → pmW → Prop} (hG : pgG mid = some M) (h : PX mid 0 (pmPad M.2.1 (pmEnt args)) [] w Q) : MX mid args w Q := fun M2 hM => by
  cases Option.some.inj (hG.symm.trans hM)
  exact h
end
section
/-! THE CLAIM OUT OF ONE WALK OF THE LAW'S BODY. Your part is whole_start (and what it stands on); all else here is the same for every law, but numbers. -/
def R_law : String := "TrackRoutesLaw"
def lw_P (b : Addr) (xs : List Int32) (args : Array Value) (s : State) : Prop := args = #[.ref b] ∧ s.IntsAt b xs ∧ xs.length ≤ 643 ∧ (Jvm.Cond.and given_1 narrow_1).before args s = true
def lw_Q (_ : Array Value) (s : State) (o : Outcome) (t : State) : Prop := o = .returned (some (.int 1)) ∧ Framed s o t [] 600128 7301063
def lw_Z (below : List Frame) (a : Array Value) (s : State) : State → Prop := fun t => ∃ o, t.status = .running ∧ Ended t below o ∧ lw_Q a s o t
/-- the law's own end, with 1 on the stack, nothing written that was there before, its room as the claim has it -/
theorem lw_ret {p : Program} {l : Launch} {e : Env} {s : State} {m : MethodId} {below : List Frame} {meth : Method} {c : Code} {b : Nat} (hx : p.tables.exec = Jvm.exec) (hb : c.code = code) (hr : meth.sig.returnType = ret) (hlocks : meth.locks = false) {pc : Nat} {H : Heap} {ls : Array Slot} (hdg : decode code pc = .ok (.ireturn, 1)) : W p l e room_1 s m #[Value.ref b] below meth c H [] 600128 7301063 (lw_Z below #[Value.ref b] s) (F0 m pc ls [.int 1]) := by
  intro T hT X
  obtain ⟨fs, hret, hrun, hended, hW, hframe⟩ := X.leave (v := some (.int 1)) (hlocks := hlocks) (fun h => by rw [hr] at h; cases h)
  have hmeth' : T.vm.method? m = some meth := X.method'
  refine ⟨T.setFrames fs, ?_, .returned (some (.int 1)), hrun, hended, rfl, ⟨_, rfl⟩, hW, hframe⟩
  jvm_step X.here [X.here.top, hx, hb, hdg, hmeth', hr, ret, narrow_b1]
  (try refine ⟨rfl, ?_⟩); (try refine ⟨rfl, ?_⟩)
  first | (intro acts; rw [hret _ acts rfl rfl rfl]) | rw [hret _ _ rfl rfl rfl]
  exact Steps.refl _
/-- what holds at the law's entry: the machine, the code, the tables' words (any of lw_tbl by 'hts w (by decide +kernel)'), the script of L ints xs at the cell b, what the Statement gives of the start (any of its parts by flat_of_before) -/
def lw_At (p : Program) (s : State) (m : MethodId) (meth : Method) (c : Code) (b L : Nat) (xs : Nat → Int32) : Prop :=
  p.tables.exec = Jvm.exec ∧ c.code = code ∧ meth.sig.returnType = ret ∧ c.maxLocals = 7 ∧ s.vm.findClass R_law = some m.cls ∧ (∀ w ∈ lw_tbl, w.before #[Value.ref b] s = true) ∧ va_X b L xs s s.heap ∧ b < s.heap.size ∧ meth.locks = false ∧ (Jvm.Cond.and given_1 narrow_1).before #[Value.ref b] s = true ∧ (Jvm.Cond.code x code maxLocals ret).before #[Value.ref b] s = true
/-- the pure machine's start: the script alone -/
def w00 (L : Nat) (xs : Nat → Int32) : pmW := (0, 0, 0, fun a => if a = 0 then .inl (.int, L) else .inr 0, fun _ _ => none, fun a => if a = 0 then xs else fun _ => 0, fun _ _ => 0)
/-- what is left: the law in the pure machine -/
def PureLaw : Prop := ∀ (L : Nat) (xs : Nat → Int32), L ≤ 643 → PX m_L_law 0 (pmPad 7 (pmEnt [.ref 0])) [] (w00 L xs) (fun o w => o = .inl (some (.int 1)) ∧ pmnc w ≤ 600128 ∧ pmns w ≤ 7301063)
theorem st_cls : ∀ q ∈ vwCl, (u_ws q.1 q.2.1 q.2.2).all (fun w => decide (w ∈ lw_tbl)) = true ∧ Cond.instantiable q.1 q.2.2 ∈ lw_tbl := by
  intro q hq
  simp only [vwCl, List.mem_cons, List.not_mem_nil, or_false] at hq
  rcases hq with rfl | rfl | rfl | rfl | rfl | rfl | rfl <;> exact ⟨by decide +kernel, by decide +kernel⟩
theorem st_arr {s : State} {args : Array Value} {ty : FieldType} (h : (Cond.arrayClass ty).before args s = true) (hp : ∀ cA, s.vm.findClass ("[" ++ ty.toString) = some cA → va_RA s cA ty) : ∃ cA, ArrOfT s cA ty ∧ va_RA s cA ty := by
  obtain ⟨cA, kA, comp, h1, h2, h3⟩ := Cond.arrayClass_spec h
  exact ⟨cA, fun n z => ⟨fun k h => (by cases h), kA, h2, comp, h3⟩, hp cA h1⟩
theorem st_known {s : State} {args : Array Value} (hts : ∀ w ∈ lw_tbl, w.before args s = true) : ∃ (dC : Nat → ClassId) (dI : Nat → Nat → Nat), ∀ (c : Nat) (q : vw_C), vwCl[c]? = some q → u_Kn s q.1 q.2.1 q.2.2 (dC c) (dI c) := by
  have h : ∀ ci : Nat, ∃ z : ClassId × (Nat → Nat), ∀ q : vw_C, vwCl[ci]? = some q → u_Kn s q.1 q.2.1 q.2.2 z.1 z.2 := by
    intro ci
    cases hq : vwCl[ci]? with
    | none => exact ⟨(0, fun _ => 0), fun q h => by cases h⟩
    | some q =>
      obtain ⟨h1, h2⟩ := st_cls q (List.mem_of_getElem? hq)
      obtain ⟨cC, iS, hk⟩ := u_known (n := q.2.2) hts (fun w hw => of_decide_eq_true (List.all_eq_true.mp h1 w hw)) (hts _ h2)
      exact ⟨(cC, iS), fun q2 h => by cases h; exact hk⟩
  obtain ⟨f, hf⟩ := Classical.axiomOfChoice h
  exact ⟨fun c => (f c).1, fun c => (f c).2, fun c q hq => hf c q hq⟩
set_option maxRecDepth 100000 in
theorem st_ew {w : Cond} (hw : w ∈ dEW pgD) : pmEwOk w = true ∧ w ∈ lw_tbl := by
  have e : dEW pgD = List.filter pmEwOk lw_tbl := by unfold dEW pgD pgEW; rfl
  rw [e] at hw
  exact ⟨(List.mem_filter.mp hw).2, (List.mem_filter.mp hw).1⟩
theorem st_nil {α : Type} {k : Nat} {q : α} {P : Prop} (h : ([] : List α)[k]? = some q) : P := by simp at h
theorem st_sr : ∀ q ∈ pgSR, Cond.stringRef q.1 q.2.1 q.2.2 ∈ lw_tbl := by decide +kernel
theorem st_sx : ∀ q ∈ pgSR, Cond.exactly (.string q.1 q.2.1) "java/lang/String" ∈ flatC (Jvm.Cond.and given_1 narrow_1) := by decide +kernel
theorem st_nc : ∀ q ∈ pgNC, Cond.not (.castable q.1 q.2) ∈ flatC (Jvm.Cond.and given_1 narrow_1) := by decide +kernel
theorem st_words : Cond.arrayClass .int ∈ lw_tbl ∧ Cond.arrayClass .boolean ∈ lw_tbl ∧ Cond.arrayClass .long ∈ lw_tbl ∧ Cond.laysStatic Bundle.tN "UNASSIGNED_STACK" Bundle.steD ∈ lw_tbl ∧ Cond.laysStatic Bundle.tN "SUPPRESSED_SENTINEL" Bundle.listD ∈ lw_tbl ∧ Cond.initialized Bundle.tN ∈ lw_tbl ∧ Cond.isRef (.static Bundle.tN "UNASSIGNED_STACK" Bundle.steD) ∈ flatC (Jvm.Cond.and given_1 narrow_1) ∧ Cond.isRef (.static Bundle.tN "SUPPRESSED_SENTINEL" Bundle.listD) ∈ flatC (Jvm.Cond.and given_1 narrow_1) := by
  refine ⟨?_, ?_, ?_, ?_, ?_, ?_, ?_, ?_⟩ <;> decide +kernel
/-- from the entry, for every script of at most 643 ints, the law comes to its end with true: out of the pure machine -/
theorem whole_start (hp : PureLaw) {p : Program} {e : Env} {s : State} {m : MethodId} {below : List Frame} {meth : Method} {c : Code} (l : Launch) (hst : l.stackTraces = false) {b L : Nat} {xs : Nat → Int32} (hL : L ≤ 643) (C0 : lw_At p s m meth c b L xs) : W p l e room_1 s m #[Value.ref b] below meth c s.heap [] 0 0 (lw_Z below #[Value.ref b] s) (entryFrame m ([Value.ref b] : List Value).toArray 7) := by
  obtain ⟨hx, hb, hr, hml, hown, hts, hX, hbl, hlocks, hgv, hcd⟩ := C0
  obtain ⟨o, wF, ⟨n, hn⟩, rfl, hc, hs⟩ := hp L xs hL
  obtain ⟨t1, t2, t3, t4, t5, t6, t7, t8⟩ := st_words
  obtain ⟨dC, dI, hkn⟩ := st_known hts
  obtain ⟨cI, hI1, hI2⟩ := st_arr (hts _ t1) (fun cA h => h)
  obtain ⟨cZ, hZ1, hZ2⟩ := st_arr (hts _ t2) (fun cA h => h)
  obtain ⟨cJ, hJ1, hJ2⟩ := st_arr (hts _ t3) (fun cA h => h)
  have hfl := flat_of_before _ hgv
  have hM : dG pgD m_L_law = some (pcL_law, 7, [], 0) := rfl
  have hctx : pmCtx pgD m_L_law (pcL_law, 7, [], 0) p room_1 s m #[Value.ref b] meth c := by
    refine ⟨hx, hb, hml, hown, ?_, fun h => absurd (show (dyy pgD m_L_law).name = "<init>" from h) (by decide), fun h => absurd rfl h, rfl, rfl⟩
    intro w hw
    rcases List.mem_cons.mp (show w ∈ pgHw (pgAt m_L_law) :: pgTb from hw) with h | h
    · rw [h]; exact hcd
    · exact hts w (List.mem_filter.mp h).1
  have hfix : pmFix (dcl pgD) dC dI cI cZ cJ (fun q => s.heap.size ≤ q) s b L xs := by
    refine ⟨⟨hkn, fun k q hk => ?_⟩, fun q h => h, hX, hbl, fun h => absurd hbl (Nat.not_lt.mpr h)⟩
    match k, hk with
    | 0, hk => cases hk; exact ⟨hI1, hI2⟩
    | 1, hk => cases hk; exact ⟨hZ1, hZ2⟩
    | 2, hk => cases hk; exact ⟨hJ1, hJ2⟩
    | k + 3, hk => simp at hk
  have hA : ∀ a : Nat, a < s.heap.size → ¬ s.heap.size ≤ a := fun a h => Nat.not_le.mpr h
  have hG : pmG pgD (fun q => s.heap.size ≤ q) s := by
    refine ⟨vx_Zqof (hts _ t4) (hts _ t6) (hfl _ t7) hA, vx_Zqof (hts _ t5) (hts _ t6) (hfl _ t8) hA, fun w hw => ?_, fun q hq => ?_, fun q hq => ?_⟩
    · obtain ⟨h1, h2⟩ := st_ew hw
      exact ⟨h1, pmEw_tabs h1 rfl (hts w h2)⟩
    · obtain ⟨a, -, -, -, h2, -⟩ := Cond.exactly_spec (hfl _ (st_sx q hq))
      exact ⟨a, vk_R.of (hts _ (st_sr q hq)) h2⟩
    · exact va_Nc.of (hfl _ (st_nc q hq))
  rw [lg_entry_eq]
  refine pm_body pgDOk hst n m_L_law _ hM p e room_1 s m #[Value.ref b] below meth c dC dI cI cZ cJ _ b L xs hctx hfix hG (lw_Z below #[Value.ref b] s) 0 (pmPad 7 (pmEnt [.ref 0])) [] (w00 L xs) (.inl (some (.int 1))) wF (fun _ => b) _ s.heap [] 0 0 (hn n (Nat.le_refl n)) rfl ?_ (pm_entry (φ := fun _ => b) (vs := [.ref 0]) (n := 7) (by decide)) ?_ ?_ ?_ ?_
  · refine ⟨fun i a h => ?_, fun a h => by cases h⟩
    have h2 := pmEnt_get [.ref 0] i 0 _ (pmPad_get _ _ _ _ h)
    have h3 := lv_args_mem _ _ _ h2
    simp only [List.mem_singleton, Value.ref.injEq] at h3
    subst h3
    exact Nat.le_refl _
  · refine ⟨fun k q h => st_nil h, ⟨fun i j p q h => st_nil h, fun k q h => st_nil h⟩, va_S.rf, fun a k b h => (by cases h), rfl, rfl, rfl⟩
  · show 0 + pmnc wF ≤ 600128 + 0
    omega
  · show 0 + pmns wF ≤ 7301063 + 0
    omega
  · refine ⟨fun φ1 ls1 H1 locs1 c1 s1 pc1 v h1 h2 h3 h4 h5 h6 h7 => ?_, fun φ1 ls1 H1 locs1 c1 s1 pc1 x w1 st1 h1 => (by cases h1), fun φ1 ls1 H1 locs1 c1 s1 pc1 x q ce rest h1 => (by cases h1)⟩
    cases h1
    obtain ⟨-, -, hS, -⟩ := h5
    refine va_forget (fun q hq => hS.2.2 q hq) ?_
    refine W.widen (k := 600128) (n := 7301063) ?_ ?_ ?_
    · have : c1 + 0 = 0 + pmnc wF := h6
      omega
    · have : s1 + 0 = 0 + pmns wF := h7
      omega
    · rcases h2 with ⟨z, e1, d, -⟩ | ⟨z, e1, -⟩ | ⟨z, e1, -⟩ | ⟨e1, -⟩
      · cases e1
        exact lw_ret hx hb hr hlocks d
      · cases e1
      · cases e1
      · cases e1
set_option maxHeartbeats 4000000 in
theorem lw_walk (hp : PureLaw) (l : Launch) (hst : l.stackTraces = false) (b : Addr) (xs : List Int32) : MetFree l x (headSpec (Jvm.Cond.code x code maxLocals ret :: tables_1) room_1) (lw_P b xs) (fun _ _ _ _ _ => True) lw_Q := by
  refine MetFree.of_bodyS (code := code) (maxLocals := maxLocals) (ret := ret) (by decide) ?_ ?_
  · intro args s m h hn
    obtain ⟨meth, c, h1, h2, h3, h4, h5, h6, -, -⟩ := Cond.code_spec hn (atoms_spec (ws := Jvm.Cond.code x code maxLocals ret :: tables_1) h _ List.mem_cons_self)
    exact ⟨meth, c, h1, h2, h3, h4, h5, h6⟩
  · intro p e s m args below meth c s₁ B hml0 hP _
    obtain ⟨rfl, hx, hbd, hgv⟩ := hP
    obtain ⟨scr, harrAt, hlist, hof, hsmall⟩ := hx
    obtain ⟨hcb, hkn, -, -⟩ := State.arrayAt?_spec harrAt
    have hown : s.vm.findClass R_law = some m.cls := findClass_of_methodNamed B.named
    have hts0 : ∀ c ∈ (Jvm.Cond.code x code maxLocals ret :: tables_1), c.before #[Value.ref b] s = true := atoms_spec (ws := Jvm.Cond.code x code maxLocals ret :: tables_1) B.pre
    have hts : ∀ w ∈ lw_tbl, w.before #[Value.ref b] s = true := k2_hts_sels lw_privs (fun w hw => hts0 w (List.mem_cons_of_mem _ hw)) lw_privs_ok
    have hml : c.maxLocals = 7 := B.maxLocals_eq (hts0 _ List.mem_cons_self)
    have X₀ : Stand p l e room_1 s m #[Value.ref b] below meth c s₁ [] 0 0 := Stand.of_body B
    have hh0 : s₁.heap = s.heap := by rw [B.state]; rfl
    have hsz : scr.slots.size = xs.length := by rw [← Array.length_toList, hlist, List.length_map]
    have hval : ∀ j : Nat, j < xs.length → scr.slots[j]? = some (.int (xs.getD j 0)) := fun j hj => by
      rw [← Array.getElem?_toList, hlist]
      simp [hj]
    have hbl : b < s.heap.size := (Array.getElem?_eq_some_iff.mp hcb).1
    have hX : va_X b xs.length (fun j => xs.getD j 0) s s.heap := ⟨scr, hcb, hof, hkn, hsz, hval⟩
    have K : W p l e room_1 s m #[Value.ref b] below meth c s₁.heap [] 0 0 (lw_Z below #[Value.ref b] s) (entryFrame m ([Value.ref b] : List Value).toArray 7) := by
      rw [hh0]
      exact whole_start hp l hst hbd ⟨B.exec, B.bytes, B.returns, hml, hown, hts, hX, hbl, B.notSynchronized, hgv, hts0 _ List.mem_cons_self⟩
    obtain ⟨t, a1, o, b1, b2, b3⟩ := K s₁ rfl X₀
    exact ⟨t, o, a1, b1, b2, b3⟩
theorem lw_pre_spec {args : Array Value} {s : State} (h : (Jvm.Cond.and given_1 narrow_1).before args s = true) (hr : rest_1_c.before args s = true) : ∃ (b : Addr) (xs : List Int32), lw_P b xs args s := by
  have hs := flat_of_before _ h
  have hq := flat_of_before _ hr
  have hc : (Cond.count 1).before args s = true := hs _ (by decide +kernel)
  have harr : (Cond.arrayOf (.arg 0) .int).before args s = true := hs _ (by decide +kernel)
  have hle : (Cond.le (.length (.arg 0)) (.int 643)).before args s = true := hs _ (by decide +kernel)
  have hlen : (Cond.isInt (.length (.arg 0))).before args s = true := hq _ (by decide +kernel)
  have hall : (Cond.all (.arg 0) (.isInt (.elem (.arg 0) (.index 0)))).before args s = true := hq _ (by decide +kernel)
  obtain ⟨b, xs, hb, hx⟩ := State.ints_of_pre rfl harr hlen hall
  have hsm : xs.length < 2 ^ 31 := hx.choose_spec.2.2.2
  have hev : (Term.length (.arg 0)).eval args s none [] s = some (.int xs.length.toInt32) := hx.length_eval hb
  have hv := Cond.le_ints hev (show (Term.int 643).eval args s none [] s = some (.int 643) from rfl)
  have hd : xs.length.toInt32 ≤ 643 := by
    simpa [Cond.before, Cond.holds, hv] using hle
  have hN : xs.length ≤ 643 := (Int32.ofNat_le_ofNat hsm (by decide)).mp (show Int32.ofNat xs.length ≤ Int32.ofNat 643 from hd)
  exact ⟨b, xs, Cond.one_arg hc (show args[0]? = some (.ref b) from hb), hx, hN, h⟩
theorem lw_comes (hp : PureLaw) (l : Launch) (hst : l.stackTraces = false) : Comes l x (Jvm.Cond.code x code maxLocals ret :: tables_1) room_1 (fun tb e args s => Calls_1 tb e args s ∧ rest_1 tb e args s ∧ Pre_1 tb e args s)
    (fun _ _ args s o t => lw_Q args s o t) := by
  intro p e ha hc hk s m args below hf hfit hheap happ hpre
  obtain ⟨b, xs, hP⟩ := lw_pre_spec hpre.2.2 hpre.2.1
  obtain ⟨k, o, h1, h2, h3, hQ⟩ := lw_walk hp l hst b xs p e ha hc hk s m args below hf ((Spec.applies_iff_loose hf).mp happ).1 hP trivial
  exact ⟨k, o, h1, h2, h3, hQ⟩
theorem lw_frame {s t : State} {o : Outcome} {args : Array Value} (h : Framed s o t [] 600128 7301063) :
    Framed s o t (fieldLocs frame_1_writes args s ++ arrayLocs frame_1_arrays args s ++ staticLocs frame_1_statics s) 600128 7301063 := h
theorem lw_limb (hp : PureLaw) (L : Cond) (hL : ∀ (args : Array Value) (s t : State), L.after args s (.returned (some (.int 1))) t = true) :
    ArmFor flags0 classFile x code maxLocals ret World_1 tables_1 room_1 Calls_1 rest_1 Pre_1
      (fun tb e a s o t => postC L tb e a s o t ∧ Framed s o t (fieldLocs frame_1_writes a s ++ arrayLocs frame_1_arrays a s ++ staticLocs frame_1_statics s) 600128 7301063) := by
  intro l hfl _ _ p e ha hc hk s m args below hf hfit hheap happ hpre
  have hst : l.stackTraces = false := by unfold Launch.stackTraces; rw [hfl]; decide
  obtain ⟨k, o, h1, h2, h3, rfl, hF⟩ := lw_comes hp l hst p e ha hc hk s m args below hf hfit hheap happ hpre
  exact ⟨k, _, h1, h2, h3, hL args s _, lw_frame hF⟩
theorem i_vc_of (hp : PureLaw) : Claimed_1_1 ∧ Claimed_1_2 := ⟨lw_limb hp limb_1_1 (fun args s t => by simp [limb_1_1, Cond.after, Cond.holds, Cond.value]), lw_limb hp limb_1_2 (fun args s t => Cond.after_iff.mpr (by
  first | (rw [show limb_1_2 = Cond.eq .result (.int 1) from rfl, Cond.eq_ints (x := 1) (y := 1) rfl rfl]; simp; done) | (simp [limb_1_2, Cond.value, Term.eval]; done)))⟩
end
section
/-! ===== THE WHOLE NUMBERS' MACHINE: the pure machine over Int ===== -/
abbrev zV : Type := Int ⊕ (Int ⊕ Nat)
abbrev zL : Type := List (Option zV)
/-- by cell and place -/
abbrev zI : Type := Nat → Int → Int
/-- cells made, slots made, the script's length, the number of places, ints, longs -/
abbrev zW : Type := Nat × Nat × Nat × Nat × zI × zI
abbrev zO : Type := Option zV ⊕ Nat
abbrev zi (e : Int) : zV := .inl e
abbrev zl (e : Int) : zV := .inr (.inl e)
abbrev zr (a : Nat) : zV := .inr (.inr a)
def zc : zV → Value
  | .inl e => .int (Int32.ofInt e)
  | .inr (.inl e) => .long (Int64.ofInt e)
  | .inr (.inr a) => .ref a
def zcl (l : zL) : pmL := l.map (Option.map zc)
def zw (w : zW) : pmW := (55, w.1, w.2.1, hd0 w.2.2.1 w.2.2.2.1, R0, fun a k => Int32.ofInt (w.2.2.2.2.1 a (k : Int)), fun a k => Int64.ofInt (w.2.2.2.2.2 a (k : Int)))
def zco : zO → pmO
  | .inl v => .inl (v.map zc)
  | .inr x => .inr x
def zQ (Q : zO → zW → Prop) : pmO → pmW → Prop := fun o w1 => ∃ zo z1, o = zco zo ∧ w1 = zw z1 ∧ Q zo z1
def ZX (mid pc : Nat) (l : zL) (st : List zV) (w : zW) (Q : zO → zW → Prop) : Prop := PX mid pc (zcl l) (st.map zc) (zw w) (zQ Q)
def MZ (mid : Nat) (args : List zV) (w : zW) (Q : zO → zW → Prop) : Prop := MX mid (args.map zc) (zw w) (zQ Q)
theorem ZX.mono {mid pc : Nat} {l : zL} {st : List zV} {w : zW} {Q Q1 : zO → zW → Prop} (h : ZX mid pc l st w Q) (hq : ∀ o w1, Q o w1 → Q1 o w1) : ZX mid pc l st w Q1 := PX.mono h (fun o w1 ⟨zo, z1, a, b, c⟩ => ⟨zo, z1, a, b, hq _ _ c⟩)
theorem MZ.mono {mid : Nat} {args : List zV} {w : zW} {Q Q1 : zO → zW → Prop} (h : MZ mid args w Q) (hq : ∀ o w1, Q o w1 → Q1 o w1) : MZ mid args w Q1 := MX.mono h (fun o w1 ⟨zo, z1, a, b, c⟩ => ⟨zo, z1, a, b, hq _ _ c⟩)
def zU (I : zI) (a : Nat) (k v : Int) : zI := fun b j => if b = a ∧ j = k then v else I b j
def zGet : zL → Nat → Option zV
  | [], _ => none
  | o :: _, 0 => o
  | _ :: r, i + 1 => zGet r i
def zIs2 : Option zV → Bool
  | some (.inr (.inl _)) => true
  | _ => false
def zKl (o : Option zV) : Option zV := match zIs2 o with
  | true => none
  | false => o
def zSet (v : zV) : Nat → zL → zL
  | _, [] => []
  | 0, _ :: r => some v :: r
  | 1, o :: r => zKl o :: zSet v 0 r
  | i + 2, o :: r => o :: zSet v (i + 1) r
def zNx : zL → zL
  | [] => []
  | _ :: r => none :: r
def zSet2 (v : zV) : Nat → zL → zL
  | _, [] => []
  | 0, _ :: r => some v :: zNx r
  | 1, o :: r => zKl o :: zSet2 v 0 r
  | i + 2, o :: r => o :: zSet2 v (i + 1) r
def zEnt : List zV → zL
  | [] => []
  | v :: r => match zIs2 (some v) with
    | true => some v :: none :: zEnt r
    | false => some v :: zEnt r
def zPad : Nat → zL → zL
  | 0, l => l
  | n + 1, [] => none :: zPad n []
  | n + 1, o :: r => o :: zPad n r
theorem zGet_c : ∀ (l : zL) (i : Nat), pmGet (zcl l) i = (zGet l i).map zc
  | [], _ => rfl
  | _ :: _, 0 => rfl
  | _ :: r, i + 1 => zGet_c r i
theorem zIs2_c : ∀ o : Option zV, pmIs2 (o.map zc) = zIs2 o
  | none => rfl
  | some (.inl _) => rfl
  | some (.inr (.inl _)) => rfl
  | some (.inr (.inr _)) => rfl
theorem zKl_c (o : Option zV) : pmKl (o.map zc) = (zKl o).map zc := by
  unfold pmKl zKl
  rw [zIs2_c]
  cases zIs2 o <;> rfl
theorem zSet_c (v : zV) : ∀ (i : Nat) (l : zL), pmSet (zc v) i (zcl l) = zcl (zSet v i l)
  | 0, [] => rfl
  | 1, [] => rfl
  | i + 2, [] => rfl
  | 0, _ :: r => rfl
  | 1, o :: r => by
    show pmKl (o.map zc) :: pmSet (zc v) 0 (zcl r) = (zKl o).map zc :: zcl (zSet v 0 r)
    rw [zKl_c, zSet_c v 0 r]
  | i + 2, o :: r => by
    show o.map zc :: pmSet (zc v) (i + 1) (zcl r) = o.map zc :: zcl (zSet v (i + 1) r)
    rw [zSet_c v (i + 1) r]
theorem zNx_c : ∀ l : zL, pmNx (zcl l) = zcl (zNx l)
  | [] => rfl
  | _ :: _ => rfl
theorem zSet2_c (v : zV) : ∀ (i : Nat) (l : zL), pmSet2 (zc v) i (zcl l) = zcl (zSet2 v i l)
  | 0, [] => rfl
  | 1, [] => rfl
  | i + 2, [] => rfl
  | 0, _ :: r => by
    show some (zc v) :: pmNx (zcl r) = some (zc v) :: zcl (zNx r)
    rw [zNx_c]
  | 1, o :: r => by
    show pmKl (o.map zc) :: pmSet2 (zc v) 0 (zcl r) = (zKl o).map zc :: zcl (zSet2 v 0 r)
    rw [zKl_c, zSet2_c v 0 r]
  | i + 2, o :: r => by
    show o.map zc :: pmSet2 (zc v) (i + 1) (zcl r) = o.map zc :: zcl (zSet2 v (i + 1) r)
    rw [zSet2_c v (i + 1) r]
theorem zEnt_c : ∀ l : List zV, pmEnt (l.map zc) = zcl (zEnt l)
  | [] => rfl
  | v :: r => by
    have e : pmIs2 (some (zc v)) = zIs2 (some v) := zIs2_c (some v)
    show pmEnt (zc v :: r.map zc) = _
    unfold pmEnt zEnt
    rw [e, zEnt_c r]
    cases zIs2 (some v) <;> rfl
theorem zPad_c : ∀ (n : Nat) (l : zL), pmPad n (zcl l) = zcl (zPad n l)
  | 0, l => rfl
  | n + 1, [] => by
    show none :: pmPad n (zcl []) = none :: zcl (zPad n [])
    rw [zPad_c n []]
  | n + 1, o :: r => by
    show o.map zc :: pmPad n (zcl r) = o.map zc :: zcl (zPad n r)
    rw [zPad_c n r]
theorem MZ.of {mid : Nat} {M : pmM} {args : List zV} {w : zW} {Q : zO → zW → Prop} (hG : pgG mid = some M) (h : ZX mid 0 (zPad M.2.1 (zEnt args)) [] w Q) : MZ mid args w Q := by
  refine MX.of hG ?_
  rw [zEnt_c, zPad_c]
  exact h
def zand (a b : Int) : Int := (Int32.ofInt a &&& Int32.ofInt b).toInt
def zor (a b : Int) : Int := (Int32.ofInt a ||| Int32.ofInt b).toInt
def zxor (a b : Int) : Int := (Int32.ofInt a ^^^ Int32.ofInt b).toInt
def zshl (a b : Int) : Int := (Int32.ofInt a <<< (Int32.ofInt b &&& 31)).toInt
def zshr (a b : Int) : Int := (Int32.ofInt a >>> (Int32.ofInt b &&& 31)).toInt
def zushr (a b : Int) : Int := ((Int32.ofInt a).toUInt32 >>> ((Int32.ofInt b).toUInt32 &&& Int32.toUInt32 31)).toInt32.toInt
/-- steps that leave the world alone -/
def zA (i : Instr) (x : Nat) (k : Int32) (pc : Nat) (l : zL) (st : List zV) : Option (Nat × zL × List zV) :=
  match i with
  | .iconst _ => some (pc + 1, l, .inl k.toInt :: st)
  | .bipush _ => some (pc + 2, l, .inl k.toInt :: st)
  | .sipush _ => some (pc + 3, l, .inl k.toInt :: st)
  | .ldc _ => some (pc + 2, l, .inl k.toInt :: st)
  | .ldc_w _ => some (pc + 3, l, .inl k.toInt :: st)
  | .lconst _ => some (pc + 1, l, .inr (.inl (x : Int)) :: st)
  | .ldc2_w _ => some (pc + 3, l, .inr (.inl (x : Int)) :: st)
  | .iload _ => (match zGet l x with
    | some (.inl v) => some (pc + 2, l, .inl v :: st)
    | _ => none)
  | .iload_n _ => (match zGet l x with
    | some (.inl v) => some (pc + 1, l, .inl v :: st)
    | _ => none)
  | .lload _ => (match zGet l x with
    | some (.inr (.inl v)) => some (pc + 2, l, .inr (.inl v) :: st)
    | _ => none)
  | .lload_n _ => (match zGet l x with
    | some (.inr (.inl v)) => some (pc + 1, l, .inr (.inl v) :: st)
    | _ => none)
  | .aload _ => (match zGet l x with
    | some (.inr (.inr v)) => some (pc + 2, l, .inr (.inr v) :: st)
    | _ => none)
  | .aload_n _ => (match zGet l x with
    | some (.inr (.inr v)) => some (pc + 1, l, .inr (.inr v) :: st)
    | _ => none)
  | .istore _ => (match st with
    | .inl v :: r => some (pc + 2, zSet (.inl v) x l, r)
    | _ => none)
  | .istore_n _ => (match st with
    | .inl v :: r => some (pc + 1, zSet (.inl v) x l, r)
    | _ => none)
  | .astore _ => (match st with
    | .inr (.inr v) :: r => some (pc + 2, zSet (.inr (.inr v)) x l, r)
    | _ => none)
  | .astore_n _ => (match st with
    | .inr (.inr v) :: r => some (pc + 1, zSet (.inr (.inr v)) x l, r)
    | _ => none)
  | .lstore _ => (match st with
    | .inr (.inl v) :: r => some (pc + 2, zSet2 (.inr (.inl v)) x l, r)
    | _ => none)
  | .lstore_n _ => (match st with
    | .inr (.inl v) :: r => some (pc + 1, zSet2 (.inr (.inl v)) x l, r)
    | _ => none)
  | .iinc _ _ => (match zGet l x with
    | some (.inl v) => some (pc + 3, zSet (.inl (v + k.toInt)) x l, st)
    | _ => none)
  | .dup => (match st with
    | .inl v :: r => some (pc + 1, l, .inl v :: .inl v :: r)
    | .inr (.inr v) :: r => some (pc + 1, l, .inr (.inr v) :: .inr (.inr v) :: r)
    | _ => none)
  | .dup2 => (match st with
    | .inl u :: .inr (.inr v) :: r => some (pc + 1, l, .inl u :: .inr (.inr v) :: .inl u :: .inr (.inr v) :: r)
    | _ => none)
  | .pop => (match st with
    | .inl _ :: r => some (pc + 1, l, r)
    | _ => none)
  | .iadd => (match st with
    | .inl v :: .inl u :: r => some (pc + 1, l, .inl (u + v) :: r)
    | _ => none)
  | .isub => (match st with
    | .inl v :: .inl u :: r => some (pc + 1, l, .inl (u - v) :: r)
    | _ => none)
  | .imul => (match st with
    | .inl v :: .inl u :: r => some (pc + 1, l, .inl (u * v) :: r)
    | _ => none)
  | .iand => (match st with
    | .inl v :: .inl u :: r => some (pc + 1, l, .inl (zand u v) :: r)
    | _ => none)
  | .ior => (match st with
    | .inl v :: .inl u :: r => some (pc + 1, l, .inl (zor u v) :: r)
    | _ => none)
  | .ixor => (match st with
    | .inl v :: .inl u :: r => some (pc + 1, l, .inl (zxor u v) :: r)
    | _ => none)
  | .ishl => (match st with
    | .inl v :: .inl u :: r => some (pc + 1, l, .inl (zshl u v) :: r)
    | _ => none)
  | .ishr => (match st with
    | .inl v :: .inl u :: r => some (pc + 1, l, .inl (zshr u v) :: r)
    | _ => none)
  | .iushr => (match st with
    | .inl v :: .inl u :: r => some (pc + 1, l, .inl (zushr u v) :: r)
    | _ => none)
  | .ineg => (match st with
    | .inl u :: r => some (pc + 1, l, .inl (-u) :: r)
    | _ => none)
  | .l2i => (match st with
    | .inr (.inl u) :: r => some (pc + 1, l, .inl u :: r)
    | _ => none)
  | .goto _ => some (x, l, st)
  | _ => none
theorem i32_of (k : Int32) : Int32.ofInt k.toInt = k := Int32.ofInt_toInt k
theorem i64_nat (x : Nat) : Int64.ofInt (x : Int) = Int64.ofNat x := rfl
theorem l2i_of (u : Int) : (Int64.ofInt u).toInt32 = Int32.ofInt u := by
  first | exact Int64.toInt32_ofInt | exact Int64.toInt32_ofInt u | simp
set_option maxHeartbeats 4000000 in
theorem zA_c {i : Instr} {x pc pc1 : Nat} {k : Int32} {l l1 : zL} {st st1 : List zV} (h : zA i x k pc l st = some (pc1, l1, st1)) : pmA i x k pc (zcl l) (st.map zc) = some (pc1, zcl l1, st1.map zc) := by
  unfold zA at h
  split at h
  all_goals first
    | (cases h; done)
    | (cases h; simp only [pmA, List.map_cons, zc, i32_of]; done)
    | (cases h; simp only [pmA, List.map_cons, zc]; rfl)
    | (split at h
       · rename_i hg
         cases h
         simp only [pmA, zGet_c, hg, Option.map_some, zc, List.map_cons]
       · cases h)
    | (split at h
       · rename_i hg
         cases h
         simp only [pmA, zGet_c, hg, Option.map_some, zc, List.map_cons]
         rw [← zSet_c]
         simp only [zc, Int32.ofInt_add, i32_of]
       · cases h)
    | (split at h
       · cases h
         simp only [pmA, List.map_cons, zc, ← zSet_c, ← zSet2_c]
       · cases h)
    | (split at h
       · cases h
         simp only [pmA, List.map_cons, zc, Int32.ofInt_add, Int32.ofInt_sub, Int32.ofInt_mul, Int32.ofInt_neg, zand, zor, zxor, zshl, zshr, zushr, i32_of, l2i_of]
       · cases h)
    | (split at h
       · cases h
         simp only [pmA, List.map_cons, zc]
       · cases h
         simp only [pmA, List.map_cons, zc]
       · cases h)
end
section
/-- steps that look at the world -/
def zB (i : Instr) (x y pc : Nat) (l : zL) (st : List zV) (w : zW) : Option (Nat × zL × List zV × zW) :=
  match i with
  | .getfield _ => (match st with
    | .inr (.inr a) :: r => (match hd0 w.2.2.1 w.2.2.2.1 a with
      | .inr c => (match decide (c = x ∧ 1 ≤ a ∧ a ≤ 55) with
        | true => (match pgTy x y with
          | .int => some (pc + 3, l, .inl (w.2.2.2.2.1 a (y : Int)) :: r, w)
          | .boolean => some (pc + 3, l, .inl (w.2.2.2.2.1 a (y : Int)) :: r, w)
          | .object _ => (match R0 a y with
            | some b => some (pc + 3, l, .inr (.inr b) :: r, w)
            | none => none)
          | .array _ => (match R0 a y with
            | some b => some (pc + 3, l, .inr (.inr b) :: r, w)
            | none => none)
          | _ => none)
        | false => none)
      | .inl _ => none)
    | _ => none)
  | .putfield _ => (match st with
    | .inl v :: .inr (.inr a) :: r => (match hd0 w.2.2.1 w.2.2.2.1 a with
      | .inr c => (match decide (c = x ∧ 1 ≤ a ∧ a ≤ 55) with
        | true => (match pgTy x y with
          | .int => some (pc + 3, l, r, w.1, w.2.1, w.2.2.1, w.2.2.2.1, zU w.2.2.2.2.1 a (y : Int) v, w.2.2.2.2.2)
          | _ => none)
        | false => none)
      | .inl _ => none)
    | _ => none)
  | .arraylength => (match st with
    | .inr (.inr a) :: r => (match hd0 w.2.2.1 w.2.2.2.1 a with
      | .inl q => (match decide (a ≤ 55) with
        | true => some (pc + 1, l, .inl (q.2 : Int) :: r, w)
        | false => none)
      | .inr _ => none)
    | _ => none)
  | _ => none
theorem zU_c (I : zI) (a k : Nat) (v : Int) : (fun b j => Int32.ofInt (zU I a (k : Int) v b ((j : Nat) : Int))) = pmUI (fun b j => Int32.ofInt (I b ((j : Nat) : Int))) a k (Int32.ofInt v) := by
  funext b j
  unfold zU pmUI
  by_cases hb : b = a
  · subst hb
    rw [if_pos rfl]
    by_cases hj : j = k
    · subst hj
      rw [if_pos ⟨rfl, rfl⟩]
      simp [upd]
    · rw [if_neg (fun h => hj (by have := h.2; omega))]
      simp [upd, hj]
  · rw [if_neg (fun h => hb h.1), if_neg hb]
set_option maxHeartbeats 4000000 in
theorem zB_c {i : Instr} {x y pc pc1 : Nat} {l l1 : zL} {st st1 : List zV} {w w1 : zW} (h : zB i x y pc l st w = some (pc1, l1, st1, w1)) : pmB pgTy (pmN vwCl) i x y pc (zcl l) (st.map zc) (zw w) = some (pc1, zcl l1, st1.map zc, zw w1) := by
  unfold zB at h
  split at h
  · split at h
    · rename_i a r
      split at h
      · rename_i c hc
        split at h
        · rename_i hd
          have hd := of_decide_eq_true hd
          simp only [pmB, List.map_cons, zc]
          rw [show pmh (zw w) a = .inr c from hc]
          dsimp only
          rw [if_pos (show c = x ∧ 1 ≤ a ∧ a ≤ pmn (zw w) from hd)]
          split at h
          · rename_i ht; cases h; rw [ht]; rfl
          · rename_i ht; cases h; rw [ht]; rfl
          · rename_i ht
            split at h
            · rename_i b hb
              cases h
              rw [ht]
              simp only [pmRd]
              rw [show pmr (zw w) a y = some b from hb]
              rfl
            · cases h
          · rename_i ht
            split at h
            · rename_i b hb
              cases h
              rw [ht]
              simp only [pmRd]
              rw [show pmr (zw w) a y = some b from hb]
              rfl
            · cases h
          · cases h
        · cases h
      · cases h
    · cases h
  · split at h
    · rename_i v a r
      split at h
      · rename_i c hc
        split at h
        · rename_i hd
          have hd := of_decide_eq_true hd
          simp only [pmB, List.map_cons, zc]
          rw [show pmh (zw w) a = .inr c from hc]
          dsimp only
          rw [if_pos (show c = x ∧ 1 ≤ a ∧ a ≤ pmn (zw w) from hd)]
          split at h
          · rename_i ht
            cases h
            rw [ht]
            simp only [pmWr]
            refine congrArg (fun q => some (pc + 3, zcl l, List.map zc _, 55, w.1, w.2.1, hd0 w.2.2.1 w.2.2.2.1, R0, q, fun a k => Int64.ofInt (w.2.2.2.2.2 a ((k : Nat) : Int)))) ?_
            exact (zU_c w.2.2.2.2.1 a y v).symm
          · cases h
        · cases h
      · cases h
    · cases h
  · split at h
    · rename_i a r
      split at h
      · rename_i q hc
        obtain ⟨t, n⟩ := q
        split at h
        · rename_i hd
          have hd := of_decide_eq_true hd
          cases h
          simp only [pmB, List.map_cons, zc]
          rw [show pmh (zw w) a = .inl (t, n) from hc]
          dsimp only
          rw [if_pos (show a ≤ pmn (zw w) from hd)]
          rfl
        · cases h
      · cases h
    · cases h
  · cases h
def zGo (M : pmM) : Nat → Nat → zL → List zV → zW → Option (Nat × zL × List zV × zW)
  | 0, pc, l, st, w => some (pc, l, st, w)
  | n + 1, pc, l, st, w => match pmCode M pc with
    | none => none
    | some (i, x, y, k) => match zA i x k pc l st with
      | some (pc1, l1, st1) => zGo M n pc1 l1 st1 w
      | none => match zB i x y pc l st w with
        | some (pc1, l1, st1, w1) => zGo M n pc1 l1 st1 w1
        | none => none
theorem pmB_A {i : Instr} {x y pc : Nat} {k : Int32} {l : pmL} {st : List Value} {w : pmW} {r : Nat × pmL × List Value × pmW} (h : pmB pgTy (pmN vwCl) i x y pc l st w = some r) : pmA i x k pc l st = none := by
  cases hA : pmA i x k pc l st with
  | none => rfl
  | some q =>
    have h1 := pmKA_A hA
    have h2 := pmKA_B h
    rw [h1] at h2
    cases h2
theorem zx_go {mid : Nat} {M : pmM} (hG : pgG mid = some M) {Q : zO → zW → Prop} {pc1 : Nat} {l1 : zL} {st1 : List zV} {w1 : zW} : ∀ (k pc : Nat) (l : zL) (st : List zV) (w : zW), zGo M k pc l st w = some (pc1, l1, st1, w1) → ZX mid pc1 l1 st1 w1 Q → ZX mid pc l st w Q
  | 0, pc, l, st, w, h, K => by cases h; exact K
  | k + 1, pc, l, st, w, h, K => by
    unfold zGo at h
    split at h
    · cases h
    · rename_i i x y c hc
      split at h
      · rename_i pc2 l2 st2 hA
        exact PX.step (fun n => pmX_A hG hc (zA_c hA)) (zx_go hG k pc2 l2 st2 w h K)
      · split at h
        · rename_i pc2 l2 st2 w2 hB
          exact PX.step (fun n => pmX_B hG hc (pmB_A (zB_c hB)) (zB_c hB)) (zx_go hG k pc2 l2 st2 w2 h K)
        · cases h
end
section
/-! ranges -/
abbrev inR (e : Int) : Prop := -2147483648 ≤ e ∧ e < 2147483648
abbrev inR64 (e : Int) : Prop := -9223372036854775808 ≤ e ∧ e < 9223372036854775808
theorem i32_toInt {e : Int} (h : inR e) : (Int32.ofInt e).toInt = e := Int32.toInt_ofInt_of_le (by have := h.1; omega) (by have := h.2; omega)
theorem i64_toInt {e : Int} (h : inR64 e) : (Int64.ofInt e).toInt = e := Int64.toInt_ofInt_of_le (by have := h.1; omega) (by have := h.2; omega)
theorem i32_lt {a b : Int} (ha : inR a) (hb : inR b) : Int32.ofInt a < Int32.ofInt b ↔ a < b := by rw [Int32.lt_iff_toInt_lt, i32_toInt ha, i32_toInt hb]
theorem i32_le {a b : Int} (ha : inR a) (hb : inR b) : Int32.ofInt a ≤ Int32.ofInt b ↔ a ≤ b := by rw [Int32.le_iff_toInt_le, i32_toInt ha, i32_toInt hb]
theorem i32_eq {a b : Int} (ha : inR a) (hb : inR b) : Int32.ofInt a = Int32.ofInt b ↔ a = b := by
  refine ⟨fun h => ?_, fun h => by rw [h]⟩
  have := congrArg Int32.toInt h
  rwa [i32_toInt ha, i32_toInt hb] at this
theorem i64_lt {a b : Int} (ha : inR64 a) (hb : inR64 b) : Int64.ofInt a < Int64.ofInt b ↔ a < b := by rw [Int64.lt_iff_toInt_lt, i64_toInt ha, i64_toInt hb]
theorem i64_eq {a b : Int} (ha : inR64 a) (hb : inR64 b) : Int64.ofInt a = Int64.ofInt b ↔ a = b := by
  refine ⟨fun h => ?_, fun h => by rw [h]⟩
  have := congrArg Int64.toInt h
  rwa [i64_toInt ha, i64_toInt hb] at this
theorem i32_nat {e : Int} (h : 0 ≤ e) : Int32.ofInt e = nI e.toNat := by
  obtain ⟨n, rfl⟩ := Int.eq_ofNat_of_zero_le h
  rfl
def zCnd : ClassFile.Cond → Int → Prop
  | .eq, v => v = 0
  | .ne, v => v ≠ 0
  | .lt, v => v < 0
  | .ge, v => 0 ≤ v
  | .gt, v => 0 < v
  | .le, v => v ≤ 0
def zCnd2 : ClassFile.Cond → Int → Int → Prop
  | .eq, u, v => u = v
  | .ne, u, v => u ≠ v
  | .lt, u, v => u < v
  | .ge, u, v => v ≤ u
  | .gt, u, v => v < u
  | .le, u, v => u ≤ v
theorem zCnd_c {cd : ClassFile.Cond} {v : Int} (h : inR v) : pmCnd cd (Int32.ofInt v) ↔ zCnd cd v := by
  have h0 : inR 0 := by omega
  have e : (0 : Int32) = Int32.ofInt 0 := rfl
  cases cd <;> simp only [pmCnd, zCnd, ne_eq] <;> rw [e]
  · exact i32_eq h h0
  · rw [i32_eq h h0]
  · exact i32_lt h h0
  · exact i32_le h0 h
  · exact i32_lt h0 h
  · exact i32_le h h0
theorem zCnd2_c {cd : ClassFile.Cond} {u v : Int} (hu : inR u) (hv : inR v) : pmCnd2 cd (Int32.ofInt u) (Int32.ofInt v) ↔ zCnd2 cd u v := by
  cases cd <;> simp only [pmCnd2, zCnd2, ne_eq]
  · exact i32_eq hu hv
  · rw [i32_eq hu hv]
  · exact i32_lt hu hv
  · exact i32_le hv hu
  · exact i32_lt hv hu
  · exact i32_le hu hv
section ZXB
variable {mid pc x y : Nat} {k : Int32} {M : pmM} {l : zL} {st r : List zV} {w : zW} {Q : zO → zW → Prop}
theorem zx_if {cd : ClassFile.Cond} {off : Int} {v : Int} (hG : pgG mid = some M) (hc : pmCode M pc = some (.ifCond cd off, x, y, k)) (hr : inR v) (kt : zCnd cd v → ZX mid x l r w Q) (kf : ¬ zCnd cd v → ZX mid (pc + 3) l r w Q) : ZX mid pc l (.inl v :: r) w Q :=
  px_if hG hc (fun h => kt ((zCnd_c hr).mp h)) (fun h => kf (fun q => h ((zCnd_c hr).mpr q)))
theorem zx_cmp {cd : ClassFile.Cond} {off : Int} {u v : Int} (hG : pgG mid = some M) (hc : pmCode M pc = some (.if_icmp cd off, x, y, k)) (hu : inR u) (hv : inR v) (kt : zCnd2 cd u v → ZX mid x l r w Q) (kf : ¬ zCnd2 cd u v → ZX mid (pc + 3) l r w Q) : ZX mid pc l (.inl v :: .inl u :: r) w Q :=
  px_cmp hG hc (fun h => kt ((zCnd2_c hu hv).mp h)) (fun h => kf (fun q => h ((zCnd2_c hu hv).mpr q)))
theorem zx_iald {j : Int} {a n : Nat} (hG : pgG mid = some M) (hc : pmCode M pc = some (.iaload, x, y, k)) (hh : hd0 w.2.2.1 w.2.2.2.1 a = .inl (.int, n)) (ha : a ≤ 55) (hn : n < 2 ^ 31) (h0 : 0 ≤ j) (hj : j < n) (K : ZX mid (pc + 1) l (.inl (w.2.2.2.2.1 a j) :: r) w Q) : ZX mid pc l (.inl j :: .inr (.inr a) :: r) w Q := by
  refine px_iald hG hc (show pmh (zw w) a = .inl (.int, n) from hh) ha (i32_nat h0) (by omega) hn ?_
  have e : ((j.toNat : Nat) : Int) = j := Int.toNat_of_nonneg h0
  have e2 : Value.int (pmi (zw w) a j.toNat) = zc (.inl (w.2.2.2.2.1 a j)) := by
    show Value.int (Int32.ofInt (w.2.2.2.2.1 a ((j.toNat : Nat) : Int))) = _
    rw [e]; rfl
  rw [e2]
  exact K
theorem zx_bald {j : Int} {a n : Nat} (hG : pgG mid = some M) (hc : pmCode M pc = some (.baload, x, y, k)) (hh : hd0 w.2.2.1 w.2.2.2.1 a = .inl (.boolean, n)) (ha : 1 ≤ a ∧ a ≤ 55) (hn : n < 2 ^ 31) (h0 : 0 ≤ j) (hj : j < n) (K : ZX mid (pc + 1) l (.inl (w.2.2.2.2.1 a j) :: r) w Q) : ZX mid pc l (.inl j :: .inr (.inr a) :: r) w Q := by
  refine px_bald hG hc (show pmh (zw w) a = .inl (.boolean, n) from hh) ha (i32_nat h0) (by omega) hn ?_
  have e : ((j.toNat : Nat) : Int) = j := Int.toNat_of_nonneg h0
  have e2 : Value.int (pmi (zw w) a j.toNat) = zc (.inl (w.2.2.2.2.1 a j)) := by
    show Value.int (Int32.ofInt (w.2.2.2.2.1 a ((j.toNat : Nat) : Int))) = _
    rw [e]; rfl
  rw [e2]
  exact K
theorem zw_set {nc ns L S : Nat} {I J : zI} {a : Nat} {j v : Int} (h0 : 0 ≤ j) : zw (nc, ns, L, S, zU I a j v, J) = (55, nc, ns, hd0 L S, R0, pmUI (fun a k => Int32.ofInt (I a ((k : Nat) : Int))) a j.toNat (Int32.ofInt v), fun a k => Int64.ofInt (J a ((k : Nat) : Int))) := by
  have e : ((j.toNat : Nat) : Int) = j := Int.toNat_of_nonneg h0
  have h := zU_c I a j.toNat v
  rw [e] at h
  rw [← h]
  rfl
theorem zx_iast {j v : Int} {a n : Nat} {nc ns L S : Nat} {I J : zI} (hG : pgG mid = some M) (hc : pmCode M pc = some (.iastore, x, y, k)) (hh : hd0 L S a = .inl (.int, n)) (ha : 1 ≤ a ∧ a ≤ 55) (hn : n < 2 ^ 31) (h0 : 0 ≤ j) (hj : j < n) (K : ZX mid (pc + 1) l r (nc, ns, L, S, zU I a j v, J) Q) : ZX mid pc l (.inl v :: .inl j :: .inr (.inr a) :: r) (nc, ns, L, S, I, J) Q := by
  refine px_iast hG hc (show pmh (zw (nc, ns, L, S, I, J)) a = .inl (.int, n) from hh) ha (i32_nat h0) (by omega) hn ?_
  unfold ZX at K
  rw [zw_set h0] at K
  exact K
theorem zx_bast {j v : Int} {a n : Nat} {nc ns L S : Nat} {I J : zI} (hG : pgG mid = some M) (hc : pmCode M pc = some (.bastore, x, y, k)) (hh : hd0 L S a = .inl (.boolean, n)) (ha : 1 ≤ a ∧ a ≤ 55) (hn : n < 2 ^ 31) (h0 : 0 ≤ j) (hj : j < n) (hv : v = 0 ∨ v = 1) (K : ZX mid (pc + 1) l r (nc, ns, L, S, zU I a j v, J) Q) : ZX mid pc l (.inl v :: .inl j :: .inr (.inr a) :: r) (nc, ns, L, S, I, J) Q := by
  refine px_bast hG hc (show pmh (zw (nc, ns, L, S, I, J)) a = .inl (.boolean, n) from hh) ha (i32_nat h0) (by omega) hn ?_
  unfold ZX at K
  rw [zw_set h0] at K
  have e : vp_nar .boolean (Int32.ofInt v) = Int32.ofInt v := by rcases hv with rfl | rfl <;> decide
  rw [e]
  exact K
theorem zx_putb {i : Nat} {v : Int} {a : Nat} {nc ns L S : Nat} {I J : zI} (hG : pgG mid = some M) (hc : pmCode M pc = some (.putfield i, x, y, k)) (hh : hd0 L S a = .inr x) (ha : 1 ≤ a ∧ a ≤ 55) (ht : pgTy x y = .boolean) (hv : v = 0 ∨ v = 1) (K : ZX mid (pc + 3) l r (nc, ns, L, S, zU I a (y : Int) v, J) Q) : ZX mid pc l (.inl v :: .inr (.inr a) :: r) (nc, ns, L, S, I, J) Q := by
  refine PX.step (fun n => pmX_B hG hc (pc1 := pc + 3) (l1 := zcl l) (st1 := r.map zc) (w1 := zw (nc, ns, L, S, zU I a (y : Int) v, J)) rfl ?_) K
  simp only [pmB, List.map_cons, zc]
  rw [show pmh (zw (nc, ns, L, S, I, J)) a = .inr x from hh]
  dsimp only
  rw [if_pos (show x = x ∧ 1 ≤ a ∧ a ≤ pmn (zw (nc, ns, L, S, I, J)) from ⟨rfl, ha⟩), ht]
  simp only [pmWr]
  rw [if_pos (by rcases hv with rfl | rfl <;> decide)]
  have h := zU_c I a y v
  simp only [zw]
  rw [← h]
theorem zx_idiv {a b : Int} (hG : pgG mid = some M) (hc : pmCode M pc = some (.idiv, x, y, k)) (ha : 0 ≤ a) (hb : 0 < b) (ha2 : a < 2147483648) (hb2 : b < 2147483648) (K : ZX mid (pc + 1) l (.inl (a / b) :: r) w Q) : ZX mid pc l (.inl b :: .inl a :: r) w Q := by
  refine PX.step (fun n => pmX_A hG hc (pc1 := pc + 1) (l1 := zcl l) (st1 := zc (.inl (a / b)) :: r.map zc) ?_) K
  simp only [pmA, List.map_cons, zc]
  have hb0 : ¬ Int32.ofInt b = 0 := by
    rw [show (0 : Int32) = Int32.ofInt 0 from rfl, i32_eq (by omega) (by omega)]; omega
  rw [if_neg hb0]
  have e : Int32.ofInt a / Int32.ofInt b = Int32.ofInt (a / b) := by
    refine Int32.toInt_inj.mp ?_
    have q1 : a / b ≤ a := Int.ediv_le_self b ha
    have q2 : 0 ≤ a / b := Int.ediv_nonneg ha (by omega)
    rw [Int32.toInt_div, i32_toInt (by omega), i32_toInt (by omega), i32_toInt (by omega), Int.tdiv_eq_ediv_of_nonneg ha]
    rw [Int.bmod_eq_of_le] <;> omega
  rw [e]
theorem zx_irem {a b : Int} (hG : pgG mid = some M) (hc : pmCode M pc = some (.irem, x, y, k)) (ha : 0 ≤ a) (hb : 0 < b) (ha2 : a < 2147483648) (hb2 : b < 2147483648) (K : ZX mid (pc + 1) l (.inl (a % b) :: r) w Q) : ZX mid pc l (.inl b :: .inl a :: r) w Q := by
  refine PX.step (fun n => pmX_A hG hc (pc1 := pc + 1) (l1 := zcl l) (st1 := zc (.inl (a % b)) :: r.map zc) ?_) K
  simp only [pmA, List.map_cons, zc]
  have hb0 : ¬ Int32.ofInt b = 0 := by
    rw [show (0 : Int32) = Int32.ofInt 0 from rfl, i32_eq (by omega) (by omega)]; omega
  rw [if_neg hb0]
  have e : Int32.ofInt a / Int32.ofInt b = Int32.ofInt (a / b) := by
    refine Int32.toInt_inj.mp ?_
    have q1 : a / b ≤ a := Int.ediv_le_self b ha
    have q2 : 0 ≤ a / b := Int.ediv_nonneg ha (by omega)
    rw [Int32.toInt_div, i32_toInt (by omega), i32_toInt (by omega), i32_toInt (by omega), Int.tdiv_eq_ediv_of_nonneg ha]
    rw [Int.bmod_eq_of_le] <;> omega
  rw [e, ← Int32.ofInt_mul, ← Int32.ofInt_sub, show a - a / b * b = a % b by rw [Int.emod_def, Int.mul_comm]]
theorem zx_i2l {a : Int} (hG : pgG mid = some M) (hc : pmCode M pc = some (.i2l, x, y, k)) (ha : inR a) (K : ZX mid (pc + 1) l (.inr (.inl a) :: r) w Q) : ZX mid pc l (.inl a :: r) w Q := by
  refine PX.step (fun n => pmX_A hG hc (pc1 := pc + 1) (l1 := zcl l) (st1 := zc (.inr (.inl a)) :: r.map zc) ?_) K
  simp only [pmA, List.map_cons, zc]
  have e : (Int32.ofInt a).toInt64 = Int64.ofInt a := by
    refine Int64.toInt_inj.mp ?_
    rw [Int32.toInt_toInt64, i32_toInt ha, i64_toInt (by omega)]
  rw [e]
/-- a comparison of longs and the jump behind it -/
theorem zx_lcif {cd : ClassFile.Cond} {off : Int} {u v : Int} {x2 y2 : Nat} {k2 : Int32} (hG : pgG mid = some M) (hc : pmCode M pc = some (.lcmp, x, y, k)) (hc2 : pmCode M (pc + 1) = some (.ifCond cd off, x2, y2, k2)) (hu : inR64 u) (hv : inR64 v) (kt : zCnd2 cd u v → ZX mid x2 l r w Q) (kf : ¬ zCnd2 cd u v → ZX mid (pc + 4) l r w Q) : ZX mid pc l (.inr (.inl v) :: .inr (.inl u) :: r) w Q := by
  refine PX.step (fun n => pmX_A hG hc (pc1 := pc + 1) (l1 := zcl l) (st1 := .int (lg_cmp (Int64.ofInt u) (Int64.ofInt v)) :: r.map zc) rfl) ?_
  have key : pmCnd cd (lg_cmp (Int64.ofInt u) (Int64.ofInt v)) ↔ zCnd2 cd u v := by
    have h1 := i64_lt hv hu
    have h2 := i64_eq hu hv
    unfold lg_cmp
    by_cases a1 : v < u
    · rw [if_pos (show Int64.ofInt u > Int64.ofInt v from h1.mpr a1)]
      cases cd <;> simp only [pmCnd, zCnd2] <;> first
        | (refine ⟨fun h => absurd h (by decide), fun h => ?_⟩; omega)
        | (refine ⟨fun h => ?_, fun h => by decide⟩; omega)
    · rw [if_neg (fun h => a1 (h1.mp h))]
      by_cases a2 : u = v
      · rw [if_pos (h2.mpr a2)]
        cases cd <;> simp only [pmCnd, zCnd2] <;> first
          | (refine ⟨fun h => absurd h (by decide), fun h => ?_⟩; omega)
          | (refine ⟨fun h => ?_, fun h => by decide⟩; omega)
      · rw [if_neg (fun h => a2 (h2.mp h))]
        cases cd <;> simp only [pmCnd, zCnd2] <;> first
          | (refine ⟨fun h => absurd h (by decide), fun h => ?_⟩; omega)
          | (refine ⟨fun h => ?_, fun h => by decide⟩; omega)
  exact px_if hG hc2 (fun h => kt (key.mp h)) (fun h => kf (fun q => h (key.mpr q)))
theorem zx_sw {v : Int} {d lo hi : Int} {offs : Array Int} (hG : pgG mid = some M) (hc : pmCode M pc = some (.tableswitch d lo hi offs, x, y, k)) (hr : inR v) {t : Nat} (ht : (if v < lo ∨ hi < v then some (((pc : Int) + d).toNat) else (match offs[(v - lo).toNat]? with | some off => some (((pc : Int) + off).toNat) | none => none)) = some t) (K : ZX mid t l r w Q) : ZX mid pc l (.inl v :: r) w Q := by
  refine PX.step (fun n => pmX_A hG hc (pc1 := t) (l1 := zcl l) (st1 := r.map zc) ?_) K
  simp only [pmA, List.map_cons, zc]
  rw [i32_toInt hr]
  split at ht
  · rename_i h
    rw [if_pos h]
    cases ht
    rfl
  · rename_i h
    rw [if_neg h]
    split at ht
    · rename_i off ho
      rw [ho]
      cases ht
      rfl
    · cases ht
theorem zx_iret {v : Int} (hG : pgG mid = some M) (hc : pmCode M pc = some (.ireturn, x, y, k)) (hy : y = 0 ∨ v = 0 ∨ v = 1) (hq : Q (.inl (some (.inl v))) w) : ZX mid pc l [.inl v] w Q :=
  px_iret hG hc (by rcases hy with h | rfl | rfl; exact .inl h; exact .inr (.inl rfl); exact .inr (.inr rfl)) ⟨.inl (some (.inl v)), w, rfl, rfl, hq⟩
theorem zx_vret (hG : pgG mid = some M) (hc : pmCode M pc = some (.return_, x, y, k)) (hq : Q (.inl none) w) : ZX mid pc l [] w Q := px_vret hG hc ⟨.inl none, w, rfl, rfl, hq⟩
theorem zx_aret {a : Nat} (hG : pgG mid = some M) (hc : pmCode M pc = some (.areturn, x, y, k)) (hq : Q (.inl (some (.inr (.inr a)))) w) : ZX mid pc l [.inr (.inr a)] w Q := px_aret hG hc ⟨.inl (some (.inr (.inr a))), w, rfl, rfl, hq⟩
theorem zx_throw (hG : pgG mid = some M) (hc : pmCode M pc = some (.athrow, x, y, k)) (hM : M.2.2.1 = []) (hs : pmSum (st.map zc) ≤ 8) (hq : Q (.inr x) (w.1 + 1, w.2.1 + 6, w.2.2)) : ZX mid pc l st w Q := px_throw hG hc hM hs ⟨.inr x, (w.1 + 1, w.2.1 + 6, w.2.2), rfl, rfl, hq⟩
theorem zx_imax {a b : Int} (hG : pgG mid = some M) (hc : pmCode M pc = some (.swap, x, y, k)) (hs : pmSum (r.map zc) ≤ 8) (ha : inR a) (hb : inR b) (K : ZX mid (pc + 3) l (.inl (max a b) :: r) w Q) : ZX mid pc l (.inl b :: .inl a :: r) w Q := by
  refine px_imax hG hc hs ?_
  have e : (if Int32.ofInt a < Int32.ofInt b then Int32.ofInt b else Int32.ofInt a) = Int32.ofInt (max a b) := by
    by_cases h : a < b
    · rw [if_pos ((i32_lt ha hb).mpr h), show max a b = b by omega]
    · rw [if_neg (fun q => h ((i32_lt ha hb).mp q)), show max a b = a by omega]
  rw [e]
  exact K
theorem zx_imin {a b : Int} (hG : pgG mid = some M) (hc : pmCode M pc = some (.dup_x1, x, y, k)) (hs : pmSum (r.map zc) ≤ 8) (ha : inR a) (hb : inR b) (K : ZX mid (pc + 3) l (.inl (min a b) :: r) w Q) : ZX mid pc l (.inl b :: .inl a :: r) w Q := by
  refine px_imin hG hc hs ?_
  have e : (if Int32.ofInt b < Int32.ofInt a then Int32.ofInt b else Int32.ofInt a) = Int32.ofInt (min a b) := by
    by_cases h : b < a
    · rw [if_pos ((i32_lt hb ha).mpr h), show min a b = b by omega]
    · rw [if_neg (fun q => h ((i32_lt hb ha).mp q)), show min a b = a by omega]
  rw [e]
  exact K
end ZXB
end
section
/-! calls -/
abbrev zBmp (w : zW) : zW := (w.1 + 1, w.2.1 + 6, w.2.2)
abbrev zSI (w : zW) (I : zI) : zW := (w.1, w.2.1, w.2.2.1, w.2.2.2.1, I, w.2.2.2.2.2)
/-- answers v, nothing changes -/
def qF (v : zV) (w : zW) : zO → zW → Prop := fun o w1 => o = .inl (some v) ∧ w1 = w
/-- answers an int of a kind, nothing changes -/
def qV (P : Int → Prop) (w : zW) : zO → zW → Prop := fun o w1 => ∃ r, o = .inl (some (.inl r)) ∧ w1 = w ∧ P r
/-- answers nothing, the ints are then of a kind -/
def qU (P : zI → Prop) (w : zW) : zO → zW → Prop := fun o w1 => ∃ I1, o = .inl none ∧ w1 = zSI w I1 ∧ P I1
/-- answers an int, the ints are then of a kind -/
def qR (P : Int → zI → Prop) (w : zW) : zO → zW → Prop := fun o w1 => ∃ r I1, o = .inl (some (.inl r)) ∧ w1 = zSI w I1 ∧ P r I1
/-- throws if not C -/
def qN (C : Prop) (ex : Nat) (w : zW) : zO → zW → Prop := fun o w1 => (C ∧ o = .inl none ∧ w1 = w) ∨ (¬ C ∧ o = .inr ex ∧ w1 = zBmp w)
theorem zSum_c (r : List zV) : pmSum (r.map zc) = pmSum (r.map zc) := rfl
section ZXC
variable {mid pc x y : Nat} {k : Int32} {M M2 : pmM} {l : zL} {st rest As : List zV} {w : zW} {Q Q1 : zO → zW → Prop} {idx a : Nat}
theorem zEnt_len (l : List zV) : (pmEnt (l.map zc)).length = (zEnt l).length := by rw [zEnt_c]; simp [zcl]
theorem zx_cv (hG : pgG mid = some M) (hc : pmCode M pc = some (.invokevirtual idx, x, y, k)) (hG2 : pgG x = some M2) (hst : st = As.reverse ++ .inr (.inr a) :: rest) (hy : As.length + 1 = y) (hs : pmSum (rest.map zc) ≤ 8) (he : (zEnt (.inr (.inr a) :: As)).length ≤ M2.2.1) (hh : hd0 w.2.2.1 w.2.2.2.1 a = .inr M2.2.2.2) (ha : 1 ≤ a ∧ a ≤ 55) (hM : MZ x (.inr (.inr a) :: As) w Q1)
    (kr : ∀ o w1, Q1 o w1 → (∃ v, o = .inl v ∧ ZX mid (pc + 3) l (v.toList ++ rest) w1 Q) ∨ (∃ ex, o = .inr ex ∧ M.2.2.1 = [] ∧ Q (.inr ex) w1)) : ZX mid pc l st w Q := by
  refine px_callV (As := As.map zc) (rest := rest.map zc) (a := a) hG hc hG2 (by rw [hst]; simp [zc]) (by simp [hy]) hs ?_ (show pmh (zw w) a = .inr M2.2.2.2 from hh) ha hM ?_
  · have := zEnt_len (.inr (.inr a) :: As)
    simp only [List.map_cons, zc] at this
    rw [this]
    exact he
  · rintro o w1 ⟨zo, z1, rfl, rfl, hq⟩
    rcases kr zo z1 hq with ⟨v, rfl, K⟩ | ⟨ex, rfl, h1, h2⟩
    · refine .inl ⟨v.map zc, rfl, ?_⟩
      have e : (v.map zc).toList ++ rest.map zc = (v.toList ++ rest).map zc := by cases v <;> rfl
      rw [e]
      exact K
    · exact .inr ⟨ex, rfl, h1, .inr ex, z1, rfl, rfl, h2⟩
theorem zx_cs (hG : pgG mid = some M) (hc : pmCode M pc = some (.invokestatic idx, x, y, k)) (hG2 : pgG x = some M2) (hst : st = As.reverse ++ rest) (hy : As.length = y) (hs : pmSum (rest.map zc) ≤ 8) (he : (zEnt As).length ≤ M2.2.1) (hM : MZ x As w Q1)
    (kr : ∀ o w1, Q1 o w1 → ∃ v, o = .inl v ∧ ZX mid (pc + 3) l (v.toList ++ rest) w1 Q) : ZX mid pc l st w Q := by
  refine px_callS (As := As.map zc) (rest := rest.map zc) hG hc hG2 (by rw [hst]; simp) (by simp [hy]) hs ?_ hM ?_
  · rw [zEnt_len]
    exact he
  · rintro o w1 ⟨zo, z1, rfl, rfl, hq⟩
    obtain ⟨v, rfl, K⟩ := kr zo z1 hq
    refine ⟨v.map zc, rfl, ?_⟩
    have e : (v.map zc).toList ++ rest.map zc = (v.toList ++ rest).map zc := by cases v <;> rfl
    rw [e]
    exact K
theorem zx_cvF {v : zV} (hG : pgG mid = some M) (hc : pmCode M pc = some (.invokevirtual idx, x, y, k)) (hG2 : pgG x = some M2) (hst : st = As.reverse ++ .inr (.inr a) :: rest) (hy : As.length + 1 = y) (hs : pmSum (rest.map zc) ≤ 8) (he : (zEnt (.inr (.inr a) :: As)).length ≤ M2.2.1) (hh : hd0 w.2.2.1 w.2.2.2.1 a = .inr M2.2.2.2) (ha : 1 ≤ a ∧ a ≤ 55) (hM : MZ x (.inr (.inr a) :: As) w (qF v w)) (K : ZX mid (pc + 3) l (v :: rest) w Q) : ZX mid pc l st w Q :=
  zx_cv hG hc hG2 hst hy hs he hh ha hM (fun o w1 ⟨h1, h2⟩ => .inl ⟨some v, h1, by rw [h2]; exact K⟩)
theorem zx_cvV {P : Int → Prop} (hG : pgG mid = some M) (hc : pmCode M pc = some (.invokevirtual idx, x, y, k)) (hG2 : pgG x = some M2) (hst : st = As.reverse ++ .inr (.inr a) :: rest) (hy : As.length + 1 = y) (hs : pmSum (rest.map zc) ≤ 8) (he : (zEnt (.inr (.inr a) :: As)).length ≤ M2.2.1) (hh : hd0 w.2.2.1 w.2.2.2.1 a = .inr M2.2.2.2) (ha : 1 ≤ a ∧ a ≤ 55) (hM : MZ x (.inr (.inr a) :: As) w (qV P w)) (K : ∀ v, P v → ZX mid (pc + 3) l (.inl v :: rest) w Q) : ZX mid pc l st w Q :=
  zx_cv hG hc hG2 hst hy hs he hh ha hM (fun o w1 ⟨v, h1, h2, h3⟩ => .inl ⟨some (.inl v), h1, by rw [h2]; exact K v h3⟩)
theorem zx_cvU {P : zI → Prop} (hG : pgG mid = some M) (hc : pmCode M pc = some (.invokevirtual idx, x, y, k)) (hG2 : pgG x = some M2) (hst : st = As.reverse ++ .inr (.inr a) :: rest) (hy : As.length + 1 = y) (hs : pmSum (rest.map zc) ≤ 8) (he : (zEnt (.inr (.inr a) :: As)).length ≤ M2.2.1) (hh : hd0 w.2.2.1 w.2.2.2.1 a = .inr M2.2.2.2) (ha : 1 ≤ a ∧ a ≤ 55) (hM : MZ x (.inr (.inr a) :: As) w (qU P w)) (K : ∀ I1, P I1 → ZX mid (pc + 3) l rest (zSI w I1) Q) : ZX mid pc l st w Q :=
  zx_cv hG hc hG2 hst hy hs he hh ha hM (fun o w1 ⟨v, h1, h2, h3⟩ => .inl ⟨none, h1, by rw [h2]; exact K v h3⟩)
theorem zx_cvR {P : Int → zI → Prop} (hG : pgG mid = some M) (hc : pmCode M pc = some (.invokevirtual idx, x, y, k)) (hG2 : pgG x = some M2) (hst : st = As.reverse ++ .inr (.inr a) :: rest) (hy : As.length + 1 = y) (hs : pmSum (rest.map zc) ≤ 8) (he : (zEnt (.inr (.inr a) :: As)).length ≤ M2.2.1) (hh : hd0 w.2.2.1 w.2.2.2.1 a = .inr M2.2.2.2) (ha : 1 ≤ a ∧ a ≤ 55) (hM : MZ x (.inr (.inr a) :: As) w (qR P w)) (K : ∀ v I1, P v I1 → ZX mid (pc + 3) l (.inl v :: rest) (zSI w I1) Q) : ZX mid pc l st w Q :=
  zx_cv hG hc hG2 hst hy hs he hh ha hM (fun o w1 ⟨v, I1, h1, h2, h3⟩ => .inl ⟨some (.inl v), h1, by rw [h2]; exact K v I1 h3⟩)
theorem zx_cvN {C : Prop} {ex : Nat} (hG : pgG mid = some M) (hc : pmCode M pc = some (.invokevirtual idx, x, y, k)) (hG2 : pgG x = some M2) (hst : st = As.reverse ++ .inr (.inr a) :: rest) (hy : As.length + 1 = y) (hs : pmSum (rest.map zc) ≤ 8) (he : (zEnt (.inr (.inr a) :: As)).length ≤ M2.2.1) (hh : hd0 w.2.2.1 w.2.2.2.1 a = .inr M2.2.2.2) (ha : 1 ≤ a ∧ a ≤ 55) (hM : MZ x (.inr (.inr a) :: As) w (qN C ex w)) (hno : M.2.2.1 = []) (kx : ¬ C → Q (.inr ex) (zBmp w)) (K : C → ZX mid (pc + 3) l rest w Q) : ZX mid pc l st w Q :=
  zx_cv hG hc hG2 hst hy hs he hh ha hM (fun o w1 h => by
    rcases h with ⟨h1, h2, h3⟩ | ⟨h1, h2, h3⟩
    · exact .inl ⟨none, h2, by rw [h3]; exact K h1⟩
    · exact .inr ⟨ex, h2, hno, by rw [h3]; exact kx h1⟩)
theorem zx_csF {v : zV} (hG : pgG mid = some M) (hc : pmCode M pc = some (.invokestatic idx, x, y, k)) (hG2 : pgG x = some M2) (hst : st = As.reverse ++ rest) (hy : As.length = y) (hs : pmSum (rest.map zc) ≤ 8) (he : (zEnt As).length ≤ M2.2.1) (hM : MZ x As w (qF v w)) (K : ZX mid (pc + 3) l (v :: rest) w Q) : ZX mid pc l st w Q :=
  zx_cs hG hc hG2 hst hy hs he hM (fun o w1 ⟨h1, h2⟩ => ⟨some v, h1, by rw [h2]; exact K⟩)
theorem zx_csV {P : Int → Prop} (hG : pgG mid = some M) (hc : pmCode M pc = some (.invokestatic idx, x, y, k)) (hG2 : pgG x = some M2) (hst : st = As.reverse ++ rest) (hy : As.length = y) (hs : pmSum (rest.map zc) ≤ 8) (he : (zEnt As).length ≤ M2.2.1) (hM : MZ x As w (qV P w)) (K : ∀ v, P v → ZX mid (pc + 3) l (.inl v :: rest) w Q) : ZX mid pc l st w Q :=
  zx_cs hG hc hG2 hst hy hs he hM (fun o w1 ⟨v, h1, h2, h3⟩ => ⟨some (.inl v), h1, by rw [h2]; exact K v h3⟩)
theorem zx_csU {P : zI → Prop} (hG : pgG mid = some M) (hc : pmCode M pc = some (.invokestatic idx, x, y, k)) (hG2 : pgG x = some M2) (hst : st = As.reverse ++ rest) (hy : As.length = y) (hs : pmSum (rest.map zc) ≤ 8) (he : (zEnt As).length ≤ M2.2.1) (hM : MZ x As w (qU P w)) (K : ∀ I1, P I1 → ZX mid (pc + 3) l rest (zSI w I1) Q) : ZX mid pc l st w Q :=
  zx_cs hG hc hG2 hst hy hs he hM (fun o w1 ⟨v, h1, h2, h3⟩ => ⟨none, h1, by rw [h2]; exact K v h3⟩)
end ZXC
/-! the int cells -/
theorem zU_same (I : zI) (a : Nat) (k v : Int) : zU I a k v a k = v := if_pos ⟨rfl, rfl⟩
theorem zU_cell {I : zI} {a b : Nat} {k v : Int} (h : b ≠ a) : zU I a k v b = I b := by
  funext j
  exact if_neg (fun q => h q.1)
theorem zU_at {I : zI} {a b : Nat} {k v j : Int} (h : j ≠ k) : zU I a k v b j = I b j := if_neg (fun q => h q.2)
theorem zU_cell' {I : zI} {a b : Nat} {k v j : Int} (h : b ≠ a) : zU I a k v b j = I b j := if_neg (fun q => h q.1)
end
section
/-! ===== worlds with a grid ===== -/
/-- cells made, slots made, the script's length, the number of places, layers, width, height, longs -/
abbrev zC : Type := Nat × Nat × Nat × Nat × Int × Int × Int × zI
def cS (c : zC) : Nat := c.2.2.2.1
def cLa (c : zC) : Int := c.2.2.2.2.1
def cW (c : zC) : Int := c.2.2.2.2.2.1
def cH (c : zC) : Int := c.2.2.2.2.2.2.1
def cJ (c : zC) : zI := c.2.2.2.2.2.2.2
def lay (c : zC) (p : Int) : Int := p / (cW c * cH c)
def xo (c : zC) (p : Int) : Int := p % cW c
def yo (c : zC) (p : Int) : Int := p / cW c % cH c
def pl (c : zC) (z x y : Int) : Int := z * (cW c * cH c) + y * cW c + x
def Geo (c : zC) : Prop := 1 ≤ cLa c ∧ cLa c ≤ 3 ∧ 1 ≤ cW c ∧ cW c ≤ 24 ∧ 1 ≤ cH c ∧ cH c ≤ 24 ∧ (cS c : Int) = cLa c * (cW c * cH c)
def gI2 (c : zC) (f : Int → Int) (k : Int) : Int := match k with
  | 0 => cLa c
  | 1 => cW c
  | 2 => cH c
  | 3 => cW c * cH c
  | 4 => (cS c : Int)
  | k => f k
def gI32 (c : zC) (f : Int → Int) (k : Int) : Int := match k with
  | 1 => cLa c
  | 2 => cW c
  | 3 => cH c
  | k => f k
def gI (c : zC) (R : zI) : zI := fun a k => match a with
  | 2 => gI2 c (R 2) k
  | 6 => if 0 ≤ k ∧ k < (cS c : Int) then lay c k else 0
  | 7 => if 0 ≤ k ∧ k < (cS c : Int) then xo c k else 0
  | 8 => if 0 ≤ k ∧ k < (cS c : Int) then yo c k else 0
  | 32 => gI32 c (R 32) k
  | a => R a k
abbrev wr (c : zC) (R : zI) : zW := (c.1, c.2.1, c.2.2.1, c.2.2.2.1, gI c R, c.2.2.2.2.2.2.2)
abbrev cBmp (c : zC) : zC := (c.1 + 1, c.2.1 + 6, c.2.2)
def gFree (a : Nat) (k : Int) : Prop := a ≠ 6 ∧ a ≠ 7 ∧ a ≠ 8 ∧ (a = 2 → k = 12) ∧ (a = 32 → k ≠ 1 ∧ k ≠ 2 ∧ k ≠ 3)
theorem gI_set {c : zC} {R : zI} {a : Nat} {k v : Int} (h : gFree a k) : zU (gI c R) a k v = gI c (zU R a k v) := by
  obtain ⟨h6, h7, h8, h2, h32⟩ := h
  funext b j
  by_cases hb : b = a
  · subst hb
    by_cases hj : j = k
    · subst hj
      rw [zU_same]
      unfold gI
      split
      · have hk := h2 rfl
        subst hk
        exact (zU_same _ _ _ _).symm
      · exact absurd rfl h6
      · exact absurd rfl h7
      · exact absurd rfl h8
      · obtain ⟨q1, q2, q3⟩ := h32 rfl
        unfold gI32
        split
        · exact absurd rfl q1
        · exact absurd rfl q2
        · exact absurd rfl q3
        · exact (zU_same _ _ _ _).symm
      · exact (zU_same _ _ _ _).symm
    · rw [zU_at hj]
      unfold gI
      split
      · unfold gI2
        split <;> first | rfl | exact (zU_at hj).symm
      · rfl
      · rfl
      · rfl
      · unfold gI32
        split <;> first | rfl | exact (zU_at hj).symm
      · exact (zU_at hj).symm
  · rw [zU_cell' hb]
    unfold gI
    split
    · rw [zU_cell hb]
    · rfl
    · rfl
    · rfl
    · rw [zU_cell hb]
    · rw [zU_cell hb]
theorem Geo.S {c : zC} (h : Geo c) : 1 ≤ cS c ∧ cS c ≤ 1728 ∧ 1 ≤ cW c * cH c ∧ cW c * cH c ≤ 576 := by
  obtain ⟨h1, h2, h3, h4, h5, h6, h7⟩ := h
  have a1 : 1 * 1 ≤ cW c * cH c := Int.mul_le_mul h3 h5 (by omega) (by omega)
  have a2 : cW c * cH c ≤ 24 * 24 := Int.mul_le_mul h4 h6 (by omega) (by omega)
  have b1 : 1 * 1 ≤ cLa c * (cW c * cH c) := Int.mul_le_mul h1 a1 (by omega) (by omega)
  have b2 : cLa c * (cW c * cH c) ≤ 3 * 576 := Int.mul_le_mul h2 a2 (by omega) (by omega)
  refine ⟨?_, ?_, ?_, ?_⟩ <;> omega
theorem pl_geo {c : zC} (h : Geo c) {z x y : Int} (hz : 0 ≤ z) (hz2 : z < cLa c) (hx : 0 ≤ x) (hx2 : x < cW c) (hy : 0 ≤ y) (hy2 : y < cH c) : 0 ≤ pl c z x y ∧ pl c z x y < (cS c : Int) ∧ lay c (pl c z x y) = z ∧ xo c (pl c z x y) = x ∧ yo c (pl c z x y) = y := by
  obtain ⟨h1, h2, h3, h4, h5, h6, h7⟩ := h
  have hw : 0 < cW c := by omega
  have e1 : pl c z x y = (z * cH c + y) * cW c + x := by
    unfold pl
    rw [Int.add_mul, Int.mul_assoc, Int.mul_comm (cH c)]
  have d1 : pl c z x y / cW c = z * cH c + y := by
    rw [e1, Int.add_comm, Int.add_mul_ediv_right _ _ (by omega), Int.ediv_eq_zero_of_lt hx hx2, Int.zero_add]
  have m1 : pl c z x y % cW c = x := by
    rw [e1, Int.add_comm, Int.add_mul_emod_self_right, Int.emod_eq_of_lt hx hx2]
  have d2 : (z * cH c + y) / cH c = z := by
    rw [Int.add_comm, Int.add_mul_ediv_right _ _ (by omega), Int.ediv_eq_zero_of_lt hy hy2, Int.zero_add]
  have m2 : (z * cH c + y) % cH c = y := by
    rw [Int.add_comm, Int.add_mul_emod_self_right, Int.emod_eq_of_lt hy hy2]
  have p0 : 0 ≤ z * cH c + y := by
    have := Int.mul_nonneg hz (show 0 ≤ cH c by omega)
    omega
  refine ⟨?_, ?_, ?_, m1, ?_⟩
  · rw [e1]
    have := Int.mul_nonneg p0 (show 0 ≤ cW c by omega)
    omega
  · rw [h7, e1]
    have q1 : z * cH c + y + 1 ≤ cLa c * cH c := by
      have : (z + 1) * cH c ≤ cLa c * cH c := Int.mul_le_mul_of_nonneg_right (by omega) (by omega)
      rw [Int.add_mul] at this
      omega
    have q2 : (z * cH c + y + 1) * cW c ≤ cLa c * cH c * cW c := Int.mul_le_mul_of_nonneg_right q1 (by omega)
    rw [Int.add_mul] at q2
    rw [show cLa c * (cW c * cH c) = cLa c * cH c * cW c by rw [Int.mul_assoc, Int.mul_comm (cW c)]]
    omega
  · unfold lay
    rw [← Int.ediv_ediv_of_nonneg (by omega), d1, d2]
  · unfold yo
    rw [d1, m2]
theorem place_geo {c : zC} (h : Geo c) {p : Int} (hp : 0 ≤ p) (hp2 : p < (cS c : Int)) : 0 ≤ lay c p ∧ lay c p < cLa c ∧ 0 ≤ xo c p ∧ xo c p < cW c ∧ 0 ≤ yo c p ∧ yo c p < cH c ∧ pl c (lay c p) (xo c p) (yo c p) = p := by
  obtain ⟨h1, h2, h3, h4, h5, h6, h7⟩ := h
  have hw : 0 < cW c := by omega
  have a1 : 1 * 1 ≤ cW c * cH c := Int.mul_le_mul h3 h5 (by omega) (by omega)
  have e2 : p / (cW c * cH c) = p / cW c / cH c := (Int.ediv_ediv_of_nonneg (by omega)).symm
  refine ⟨Int.ediv_nonneg hp (by omega), ?_, Int.emod_nonneg _ (by omega), Int.emod_lt_of_pos _ hw, Int.emod_nonneg _ (by omega), Int.emod_lt_of_pos _ (by omega), ?_⟩
  · unfold lay
    exact Int.ediv_lt_of_lt_mul (by omega) (by rw [← h7]; exact hp2)
  · unfold pl lay xo yo
    have q1 := Int.mul_ediv_add_emod p (cW c)
    have q2 := Int.mul_ediv_add_emod (p / cW c) (cH c)
    rw [e2]
    have q3 : p / cW c / cH c * (cW c * cH c) + p / cW c % cH c * cW c = cW c * (p / cW c) := by
      generalize p / cW c / cH c = A at q2 ⊢
      generalize p / cW c % cH c = B at q2 ⊢
      rw [← q2, Int.mul_add, Int.mul_comm B, ← Int.mul_assoc (cW c), Int.mul_comm A]
    omega
section GR
variable {mid pc x y : Nat} {k : Int32} {M : pmM} {l : zL} {st r : List zV} {c : zC} {R : zI} {Q : zO → zW → Prop}
theorem gz_iast {j v : Int} {a n : Nat} (hG : pgG mid = some M) (hc : pmCode M pc = some (.iastore, x, y, k)) (hh : hd0 c.2.2.1 c.2.2.2.1 a = .inl (.int, n)) (ha : 1 ≤ a ∧ a ≤ 55) (hf : gFree a j) (hn : n < 2 ^ 31) (h0 : 0 ≤ j) (hj : j < n) (K : ZX mid (pc + 1) l r (wr c (zU R a j v)) Q) : ZX mid pc l (.inl v :: .inl j :: .inr (.inr a) :: r) (wr c R) Q := by
  refine zx_iast hG hc hh ha hn h0 hj ?_
  rw [gI_set hf]
  exact K
theorem gz_bast {j v : Int} {a n : Nat} (hG : pgG mid = some M) (hc : pmCode M pc = some (.bastore, x, y, k)) (hh : hd0 c.2.2.1 c.2.2.2.1 a = .inl (.boolean, n)) (ha : 1 ≤ a ∧ a ≤ 55) (hf : gFree a j) (hn : n < 2 ^ 31) (h0 : 0 ≤ j) (hj : j < n) (hv : v = 0 ∨ v = 1) (K : ZX mid (pc + 1) l r (wr c (zU R a j v)) Q) : ZX mid pc l (.inl v :: .inl j :: .inr (.inr a) :: r) (wr c R) Q := by
  refine zx_bast hG hc hh ha hn h0 hj hv ?_
  rw [gI_set hf]
  exact K
theorem gz_putb {i : Nat} {v : Int} {a : Nat} (ky : Int) (hG : pgG mid = some M) (hc : pmCode M pc = some (.putfield i, x, y, k)) (hky : (y : Int) = ky) (hh : hd0 c.2.2.1 c.2.2.2.1 a = .inr x) (ha : 1 ≤ a ∧ a ≤ 55) (ht : pgTy x y = .boolean) (hf : gFree a ky) (hv : v = 0 ∨ v = 1) (K : ZX mid (pc + 3) l r (wr c (zU R a ky v)) Q) : ZX mid pc l (.inl v :: .inr (.inr a) :: r) (wr c R) Q := by
  subst hky
  refine zx_putb hG hc hh ha ht hv ?_
  rw [gI_set hf]
  exact K
theorem gz_put {i : Nat} {v : Int} {a : Nat} (ky : Int) (hG : pgG mid = some M) (hc : pmCode M pc = some (.putfield i, x, y, k)) (hky : (y : Int) = ky) (hh : hd0 c.2.2.1 c.2.2.2.1 a = .inr x) (ha : 1 ≤ a ∧ a ≤ 55) (ht : pgTy x y = .int) (hf : gFree a ky) (K : ZX mid (pc + 3) l r (wr c (zU R a ky v)) Q) : ZX mid pc l (.inl v :: .inr (.inr a) :: r) (wr c R) Q := by
  subst hky
  have hB : zB (.putfield i) x y pc l (.inl v :: .inr (.inr a) :: r) (wr c R) = some (pc + 3, l, r, wr c (zU R a (y : Int) v)) := by
    simp only [zB]
    rw [show hd0 (wr c R).2.2.1 (wr c R).2.2.2.1 a = .inr x from hh]
    simp only
    rw [show decide (True ∧ 1 ≤ a ∧ a ≤ 55) = true from decide_eq_true ⟨trivial, ha⟩]
    simp only [ht]
    rw [gI_set hf]
  exact PX.step (fun n => pmX_B hG hc (pmB_A (zB_c hB)) (zB_c hB)) K
theorem gz_iald {j : Int} {a n : Nat} (hG : pgG mid = some M) (hc : pmCode M pc = some (.iaload, x, y, k)) (hh : hd0 c.2.2.1 c.2.2.2.1 a = .inl (.int, n)) (ha : a ≤ 55) (hf : gI c R a j = R a j) (hn : n < 2 ^ 31) (h0 : 0 ≤ j) (hj : j < n) (K : ZX mid (pc + 1) l (.inl (R a j) :: r) (wr c R) Q) : ZX mid pc l (.inl j :: .inr (.inr a) :: r) (wr c R) Q := by
  refine zx_iald hG hc hh ha hn h0 hj ?_
  rw [show (wr c R).2.2.2.2.1 a j = R a j from hf]
  exact K
theorem gz_bald {j : Int} {a n : Nat} (hG : pgG mid = some M) (hc : pmCode M pc = some (.baload, x, y, k)) (hh : hd0 c.2.2.1 c.2.2.2.1 a = .inl (.boolean, n)) (ha : 1 ≤ a ∧ a ≤ 55) (hf : gI c R a j = R a j) (hn : n < 2 ^ 31) (h0 : 0 ≤ j) (hj : j < n) (K : ZX mid (pc + 1) l (.inl (R a j) :: r) (wr c R) Q) : ZX mid pc l (.inl j :: .inr (.inr a) :: r) (wr c R) Q := by
  refine zx_bald hG hc hh ha hn h0 hj ?_
  rw [show (wr c R).2.2.2.2.1 a j = R a j from hf]
  exact K
theorem gz_ld6 {j : Int} (hG : pgG mid = some M) (hc : pmCode M pc = some (.iaload, x, y, k)) (hg : Geo c) (h0 : 0 ≤ j) (hj : j < (cS c : Int)) (K : ZX mid (pc + 1) l (.inl (lay c j) :: r) (wr c R) Q) : ZX mid pc l (.inl j :: .inr (.inr 6) :: r) (wr c R) Q := by
  refine zx_iald (n := cS c) hG hc rfl (by decide) (by have := hg.S; omega) h0 hj ?_
  rw [show (wr c R).2.2.2.2.1 6 j = lay c j from if_pos ⟨h0, hj⟩]
  exact K
theorem gz_ld7 {j : Int} (hG : pgG mid = some M) (hc : pmCode M pc = some (.iaload, x, y, k)) (hg : Geo c) (h0 : 0 ≤ j) (hj : j < (cS c : Int)) (K : ZX mid (pc + 1) l (.inl (xo c j) :: r) (wr c R) Q) : ZX mid pc l (.inl j :: .inr (.inr 7) :: r) (wr c R) Q := by
  refine zx_iald (n := cS c) hG hc rfl (by decide) (by have := hg.S; omega) h0 hj ?_
  rw [show (wr c R).2.2.2.2.1 7 j = xo c j from if_pos ⟨h0, hj⟩]
  exact K
theorem gz_ld8 {j : Int} (hG : pgG mid = some M) (hc : pmCode M pc = some (.iaload, x, y, k)) (hg : Geo c) (h0 : 0 ≤ j) (hj : j < (cS c : Int)) (K : ZX mid (pc + 1) l (.inl (yo c j) :: r) (wr c R) Q) : ZX mid pc l (.inl j :: .inr (.inr 8) :: r) (wr c R) Q := by
  refine zx_iald (n := cS c) hG hc rfl (by decide) (by have := hg.S; omega) h0 hj ?_
  rw [show (wr c R).2.2.2.2.1 8 j = yo c j from if_pos ⟨h0, hj⟩]
  exact K
end GR
end
section
/-! answers that are yes or no -/
noncomputable def bI (P : Prop) : Int := @ite Int P (Classical.propDecidable P) 1 0
theorem bI_t {P : Prop} (h : P) : bI P = 1 := @if_pos P (Classical.propDecidable P) h Int 1 0
theorem bI_f {P : Prop} (h : ¬ P) : bI P = 0 := @if_neg P (Classical.propDecidable P) h Int 1 0
theorem bI_01 (P : Prop) : bI P = 0 ∨ bI P = 1 := by
  by_cases h : P
  · exact .inr (bI_t h)
  · exact .inl (bI_f h)
theorem bI_ne {P : Prop} : bI P ≠ 0 ↔ P := by
  by_cases h : P
  · rw [bI_t h]; exact ⟨fun _ => h, fun _ => by decide⟩
  · rw [bI_f h]; exact ⟨fun q => absurd rfl q, fun q => absurd q h⟩
theorem bI_1 {P : Prop} : bI P = 1 ↔ P := by
  by_cases h : P
  · rw [bI_t h]; exact ⟨fun _ => h, fun _ => rfl⟩
  · rw [bI_f h]; exact ⟨fun q => absurd q (by decide), fun q => absurd q h⟩
theorem bI_0 {P : Prop} : bI P = 0 ↔ ¬ P := by
  by_cases h : P
  · rw [bI_t h]; exact ⟨fun q => absurd q (by decide), fun q => absurd h q⟩
  · rw [bI_f h]; exact ⟨fun _ => h, fun _ => rfl⟩
theorem bI_congr {P P1 : Prop} (h : P ↔ P1) : bI P = bI P1 := by rw [propext h]
theorem bI_R (P : Prop) : inR (bI P) := by rcases bI_01 P with h | h <;> rw [h] <;> omega
theorem qF_i {v v1 : Int} {w : zW} (h : v = v1) : qF (.inl v1) w (.inl (some (.inl v))) w := ⟨by rw [h], rfl⟩
theorem qF_t {P : Prop} {w : zW} (h : P) : qF (.inl (bI P)) w (.inl (some (.inl 1))) w := qF_i (bI_t h).symm
theorem qF_f {P : Prop} {w : zW} (h : ¬ P) : qF (.inl (bI P)) w (.inl (some (.inl 0))) w := qF_i (bI_f h).symm
theorem qV_i {v : Int} {P : Int → Prop} {w : zW} (h : P v) : qV P w (.inl (some (.inl v))) w := ⟨v, rfl, rfl, h⟩
theorem qU_i {I1 : zI} {P : zI → Prop} {w : zW} (h : P I1) : qU P w (.inl none) (zSI w I1) := ⟨I1, rfl, rfl, h⟩
theorem qR_i {v : Int} {I1 : zI} {P : Int → zI → Prop} {w : zW} (h : P v I1) : qR P w (.inl (some (.inl v))) (zSI w I1) := ⟨v, I1, rfl, rfl, h⟩
/-- the same of worlds with a grid -/
def gU (P : zI → Prop) (c : zC) : zO → zW → Prop := fun o w1 => ∃ R1, o = .inl none ∧ w1 = wr c R1 ∧ P R1
def gR (P : Int → zI → Prop) (c : zC) : zO → zW → Prop := fun o w1 => ∃ r R1, o = .inl (some (.inl r)) ∧ w1 = wr c R1 ∧ P r R1
theorem gU_i {R1 : zI} {P : zI → Prop} {c : zC} (h : P R1) : gU P c (.inl none) (wr c R1) := ⟨R1, rfl, rfl, h⟩
theorem gR_i {v : Int} {R1 : zI} {P : Int → zI → Prop} {c : zC} (h : P v R1) : gR P c (.inl (some (.inl v))) (wr c R1) := ⟨v, R1, rfl, rfl, h⟩
section ZXD
variable {mid pc x y : Nat} {k : Int32} {M M2 : pmM} {l : zL} {st r rest As : List zV} {w : zW} {c : zC} {R : zI} {Q : zO → zW → Prop} {idx a : Nat}
theorem zx_ifT {cd : ClassFile.Cond} {off : Int} {v : Int} (hG : pgG mid = some M) (hc : pmCode M pc = some (.ifCond cd off, x, y, k)) (hr : inR v) (h : zCnd cd v) (K : ZX mid x l r w Q) : ZX mid pc l (.inl v :: r) w Q := zx_if hG hc hr (fun _ => K) (fun q => absurd h q)
theorem zx_ifF {cd : ClassFile.Cond} {off : Int} {v : Int} (hG : pgG mid = some M) (hc : pmCode M pc = some (.ifCond cd off, x, y, k)) (hr : inR v) (h : ¬ zCnd cd v) (K : ZX mid (pc + 3) l r w Q) : ZX mid pc l (.inl v :: r) w Q := zx_if hG hc hr (fun q => absurd q h) (fun _ => K)
theorem zx_ifeq {off : Int} {P : Prop} (hG : pgG mid = some M) (hc : pmCode M pc = some (.ifCond .eq off, x, y, k)) (kt : ¬ P → ZX mid x l r w Q) (kf : P → ZX mid (pc + 3) l r w Q) : ZX mid pc l (.inl (bI P) :: r) w Q := zx_if hG hc (bI_R P) (fun h => kt (bI_0.mp h)) (fun h => kf (bI_ne.mp h))
theorem zx_ifne {off : Int} {P : Prop} (hG : pgG mid = some M) (hc : pmCode M pc = some (.ifCond .ne off, x, y, k)) (kt : P → ZX mid x l r w Q) (kf : ¬ P → ZX mid (pc + 3) l r w Q) : ZX mid pc l (.inl (bI P) :: r) w Q := zx_if hG hc (bI_R P) (fun h => kt (bI_ne.mp h)) (fun h => kf (fun q => h (bI_ne.mpr q)))
theorem zx_swE {v v0 : Int} {d lo hi : Int} {offs : Array Int} (hG : pgG mid = some M) (hc : pmCode M pc = some (.tableswitch d lo hi offs, x, y, k)) (hv : v = v0) (hr : inR v0) {t : Nat} (ht : (if v0 < lo ∨ hi < v0 then some (((pc : Int) + d).toNat) else (match offs[(v0 - lo).toNat]? with | some off => some (((pc : Int) + off).toNat) | none => none)) = some t) (K : ZX mid t l r w Q) : ZX mid pc l (.inl v :: r) w Q := by
  subst hv
  exact zx_sw hG hc hr ht K
theorem zx_swD {v : Int} {d lo hi : Int} {offs : Array Int} (hG : pgG mid = some M) (hc : pmCode M pc = some (.tableswitch d lo hi offs, x, y, k)) (hr : inR v) (hv : v < lo ∨ hi < v) {t : Nat} (ht : some (((pc : Int) + d).toNat) = some t) (K : ZX mid t l r w Q) : ZX mid pc l (.inl v :: r) w Q :=
  zx_sw hG hc hr (by rw [if_pos hv]; exact ht) K
theorem gx_cvU {P : zI → Prop} (hG : pgG mid = some M) (hc : pmCode M pc = some (.invokevirtual idx, x, y, k)) (hG2 : pgG x = some M2) (hst : st = As.reverse ++ .inr (.inr a) :: rest) (hy : As.length + 1 = y) (hs : pmSum (rest.map zc) ≤ 8) (he : (zEnt (.inr (.inr a) :: As)).length ≤ M2.2.1) (hh : hd0 c.2.2.1 c.2.2.2.1 a = .inr M2.2.2.2) (ha : 1 ≤ a ∧ a ≤ 55) (hM : MZ x (.inr (.inr a) :: As) (wr c R) (gU P c)) (K : ∀ R1, P R1 → ZX mid (pc + 3) l rest (wr c R1) Q) : ZX mid pc l st (wr c R) Q :=
  zx_cv hG hc hG2 hst hy hs he hh ha hM (fun o w1 ⟨v, h1, h2, h3⟩ => .inl ⟨none, h1, by rw [h2]; exact K v h3⟩)
theorem gx_cvR {P : Int → zI → Prop} (hG : pgG mid = some M) (hc : pmCode M pc = some (.invokevirtual idx, x, y, k)) (hG2 : pgG x = some M2) (hst : st = As.reverse ++ .inr (.inr a) :: rest) (hy : As.length + 1 = y) (hs : pmSum (rest.map zc) ≤ 8) (he : (zEnt (.inr (.inr a) :: As)).length ≤ M2.2.1) (hh : hd0 c.2.2.1 c.2.2.2.1 a = .inr M2.2.2.2) (ha : 1 ≤ a ∧ a ≤ 55) (hM : MZ x (.inr (.inr a) :: As) (wr c R) (gR P c)) (K : ∀ v R1, P v R1 → ZX mid (pc + 3) l (.inl v :: rest) (wr c R1) Q) : ZX mid pc l st (wr c R) Q :=
  zx_cv hG hc hG2 hst hy hs he hh ha hM (fun o w1 ⟨v, I1, h1, h2, h3⟩ => .inl ⟨some (.inl v), h1, by rw [h2]; exact K v I1 h3⟩)
theorem gx_csU {P : zI → Prop} (hG : pgG mid = some M) (hc : pmCode M pc = some (.invokestatic idx, x, y, k)) (hG2 : pgG x = some M2) (hst : st = As.reverse ++ rest) (hy : As.length = y) (hs : pmSum (rest.map zc) ≤ 8) (he : (zEnt As).length ≤ M2.2.1) (hM : MZ x As (wr c R) (gU P c)) (K : ∀ R1, P R1 → ZX mid (pc + 3) l rest (wr c R1) Q) : ZX mid pc l st (wr c R) Q :=
  zx_cs hG hc hG2 hst hy hs he hM (fun o w1 ⟨v, h1, h2, h3⟩ => ⟨none, h1, by rw [h2]; exact K v h3⟩)
end ZXD
end
section
def bt (x : Int32) (i : Nat) : Bool := x.toBitVec.getLsbD i
theorem b_ext {x y : Int32} (h : ∀ i, i < 32 → bt x i = bt y i) : x = y := Int32.toBitVec_inj.mp (BitVec.eq_of_getLsbD_eq (fun i hi => h i hi))
theorem b_or (x y : Int32) (i : Nat) : bt (x ||| y) i = (bt x i || bt y i) := by unfold bt; rw [Int32.toBitVec_or, BitVec.getLsbD_or]
theorem b_and (x y : Int32) (i : Nat) : bt (x &&& y) i = (bt x i && bt y i) := by unfold bt; rw [Int32.toBitVec_and, BitVec.getLsbD_and]
theorem b_xor (x y : Int32) (i : Nat) : bt (x ^^^ y) i = (bt x i ^^ bt y i) := by unfold bt; rw [Int32.toBitVec_xor, BitVec.getLsbD_xor]
theorem b_big {x : Int32} {i : Nat} (h : 32 ≤ i) : bt x i = false := BitVec.getLsbD_of_ge _ _ h
theorem b_255 (i : Nat) : bt 255 i = decide (i < 8) := by
  rcases Nat.lt_or_ge i 32 with h | h
  · exact (by decide +kernel : ∀ i, i < 32 → bt 255 i = decide (i < 8)) i h
  · rw [b_big h, decide_eq_false (by omega)]
theorem b_65535 (i : Nat) : bt 65535 i = decide (i < 16) := by
  rcases Nat.lt_or_ge i 32 with h | h
  · exact (by decide +kernel : ∀ i, i < 32 → bt 65535 i = decide (i < 16)) i h
  · rw [b_big h, decide_eq_false (by omega)]
theorem b_m1 : ∀ i, i < 32 → bt (-1) i = true := by decide +kernel
theorem b_0 (i : Nat) : bt 0 i = false := BitVec.getLsbD_zero
theorem s_l : ∀ n, n < 32 → ((nI n &&& 31).toBitVec.smod 32).toNat = n := by decide +kernel
theorem s_u : ∀ n, n < 32 → (((nI n).toUInt32 &&& Int32.toUInt32 31).toBitVec % 32).toNat = n := by decide +kernel
theorem b_shl (n : Nat) (hn : n < 32) (x : Int32) {i : Nat} (hi : i < 32) : bt (x <<< (nI n &&& 31)) i = (decide (n ≤ i) && bt x (i - n)) := by
  unfold bt
  rw [Int32.toBitVec_shiftLeft]
  show (x.toBitVec <<< ((nI n &&& 31).toBitVec.smod 32).toNat).getLsbD i = _
  rw [s_l n hn, BitVec.getLsbD_shiftLeft]
  rcases Nat.lt_or_ge i n with h | h
  · simp [h, Nat.not_le.mpr h]
  · simp [hi, h, Nat.not_lt.mpr h]
theorem b_ushr (n : Nat) (hn : n < 32) (x : Int32) (i : Nat) : bt ((x.toUInt32 >>> ((nI n).toUInt32 &&& Int32.toUInt32 31)).toInt32) i = bt x (n + i) := by
  show (x.toUInt32 >>> ((nI n).toUInt32 &&& Int32.toUInt32 31)).toBitVec.getLsbD i = x.toUInt32.toBitVec.getLsbD (n + i)
  rw [UInt32.toBitVec_shiftRight]
  show (x.toUInt32.toBitVec >>> (((nI n).toUInt32 &&& Int32.toUInt32 31).toBitVec % 32).toNat).getLsbD i = _
  rw [s_u n hn, BitVec.getLsbD_ushiftRight]
theorem b_sshr (n : Nat) (hn : n < 32) (x : Int32) {i : Nat} (hi : i < 32) : bt (x >>> (nI n &&& 31)) i = if n + i < 32 then bt x (n + i) else bt x 31 := by
  unfold bt
  rw [Int32.toBitVec_shiftRight]
  show (x.toBitVec.sshiftRight ((nI n &&& 31).toBitVec.smod 32).toNat).getLsbD i = _
  rw [s_l n hn, BitVec.getLsbD_sshiftRight, BitVec.msb_eq_getLsbD_last]
  simp [hi]
/-! sets of nets as ints -/
def tb (m n : Int) : Prop := zand (zshr m n) 1 ≠ 0
theorem z32_R (x : Int32) : inR x.toInt := by
  have h1 := Int32.toInt_lt x
  have h2 := Int32.le_toInt x
  omega
theorem zand_R (m n : Int) : inR (zand m n) := z32_R _
theorem zor_R (m n : Int) : inR (zor m n) := z32_R _
theorem zxor_R (m n : Int) : inR (zxor m n) := z32_R _
theorem zshl_R (m n : Int) : inR (zshl m n) := z32_R _
theorem zshr_R (m n : Int) : inR (zshr m n) := z32_R _
theorem b_one : ∀ i, i < 32 → bt 1 i = decide (i = 0) := by decide +kernel
theorem b_and1 (x : Int32) : x &&& 1 ≠ 0 ↔ bt x 0 = true := by
  constructor
  · intro h
    cases hb : bt x 0 with
    | true => rfl
    | false =>
      refine absurd (b_ext fun i hi => ?_) h
      rw [b_and, b_0, b_one i hi]
      by_cases h0 : i = 0
      · subst h0; rw [hb]; rfl
      · simp [h0]
  · intro h q
    have := congrArg (fun z => bt z 0) q
    simp only [b_and, b_0, h, b_one 0 (by decide)] at this
    cases this
theorem toInt_ne0 (x : Int32) : x.toInt ≠ 0 ↔ x ≠ 0 := by
  refine ⟨fun h q => h (by rw [q]; rfl), fun h q => h ?_⟩
  exact Int32.toInt_inj.mp (by rw [q]; rfl)
theorem tb_bt {m n : Int} (h0 : 0 ≤ n) (h1 : n < 32) : tb m n ↔ bt (Int32.ofInt m) n.toNat = true := by
  unfold tb zand zshr
  rw [toInt_ne0, i32_of, show Int32.ofInt 1 = 1 from rfl, b_and1, i32_nat h0, b_sshr n.toNat (by omega) _ (by omega), if_pos (by omega)]
  simp
theorem tb_or {a b n : Int} (h0 : 0 ≤ n) (h1 : n < 32) : tb (zor a b) n ↔ tb a n ∨ tb b n := by
  rw [tb_bt h0 h1, tb_bt h0 h1, tb_bt h0 h1]
  unfold zor
  rw [i32_of, b_or, Bool.or_eq_true]
theorem tb_and {a b n : Int} (h0 : 0 ≤ n) (h1 : n < 32) : tb (zand a b) n ↔ tb a n ∧ tb b n := by
  rw [tb_bt h0 h1, tb_bt h0 h1, tb_bt h0 h1]
  unfold zand
  rw [i32_of, b_and, Bool.and_eq_true]
theorem tb_not {a n : Int} (h0 : 0 ≤ n) (h1 : n < 32) : tb (zxor a (-1)) n ↔ ¬ tb a n := by
  rw [tb_bt h0 h1, tb_bt h0 h1]
  unfold zxor
  rw [i32_of, b_xor, show Int32.ofInt (-1) = -1 from rfl, b_m1 _ (by omega)]
  cases bt (Int32.ofInt a) n.toNat <;> simp
theorem tb_xor {a b n : Int} (h0 : 0 ≤ n) (h1 : n < 32) : tb (zxor a b) n ↔ ¬ (tb a n ↔ tb b n) := by
  rw [tb_bt h0 h1, tb_bt h0 h1, tb_bt h0 h1]
  unfold zxor
  rw [i32_of, b_xor]
  cases bt (Int32.ofInt a) n.toNat <;> cases bt (Int32.ofInt b) n.toNat <;> simp
theorem tb_one {k n : Int} (h0 : 0 ≤ n) (h1 : n < 32) (k0 : 0 ≤ k) (k1 : k < 32) : tb (zshl 1 k) n ↔ n = k := by
  rw [tb_bt h0 h1]
  unfold zshl
  rw [i32_of, i32_nat k0, b_shl k.toNat (by omega) _ (by omega), show Int32.ofInt 1 = 1 from rfl, b_one _ (by omega)]
  simp only [Bool.and_eq_true, decide_eq_true_eq]
  omega
theorem tb_zero {n : Int} (h0 : 0 ≤ n) (h1 : n < 32) : ¬ tb 0 n := by
  rw [tb_bt h0 h1, show Int32.ofInt 0 = 0 from rfl, b_0]
  simp
theorem tb_ext {a b : Int} (ha : inR a) (hb : inR b) (h : ∀ n : Int, 0 ≤ n → n < 32 → (tb a n ↔ tb b n)) : a = b := by
  rw [← i32_eq ha hb]
  refine b_ext fun i hi => ?_
  have := h (i : Int) (by omega) (by omega)
  rw [tb_bt (by omega) (by omega), tb_bt (by omega) (by omega)] at this
  simp only [Int.toNat_natCast] at this
  cases h1 : bt (Int32.ofInt a) i <;> cases h2 : bt (Int32.ofInt b) i <;> simp_all
/-- of the first 16 alone -/
def M16 (m : Int) : Prop := inR m ∧ ∀ n : Int, 16 ≤ n → n < 32 → ¬ tb m n
theorem M16.R {m : Int} (h : M16 m) : inR m := h.1
theorem M16_0 : M16 0 := ⟨by decide, fun n h0 h1 => tb_zero (by omega) h1⟩
theorem M16_or {a b : Int} (ha : M16 a) (hb : M16 b) : M16 (zor a b) := ⟨zor_R _ _, fun n h0 h1 q => by
  rw [tb_or (by omega) h1] at q
  rcases q with q | q
  · exact ha.2 n h0 h1 q
  · exact hb.2 n h0 h1 q⟩
theorem M16_andl {a b : Int} (ha : M16 a) : M16 (zand a b) := ⟨zand_R _ _, fun n h0 h1 q => by
  rw [tb_and (by omega) h1] at q
  exact ha.2 n h0 h1 q.1⟩
theorem M16_andr {a b : Int} (hb : M16 b) : M16 (zand a b) := ⟨zand_R _ _, fun n h0 h1 q => by
  rw [tb_and (by omega) h1] at q
  exact hb.2 n h0 h1 q.2⟩
theorem M16_xor {a b : Int} (ha : M16 a) (hb : M16 b) : M16 (zxor a b) := ⟨zxor_R _ _, fun n h0 h1 q => by
  rw [tb_xor (by omega) h1] at q
  exact q ⟨fun z => absurd z (ha.2 n h0 h1), fun z => absurd z (hb.2 n h0 h1)⟩⟩
theorem M16_one {k : Int} (k0 : 0 ≤ k) (k1 : k < 16) : M16 (zshl 1 k) := ⟨zshl_R _ _, fun n h0 h1 q => by
  rw [tb_one (by omega) h1 k0 (by omega)] at q
  omega⟩
theorem M16_ext {a b : Int} (ha : M16 a) (hb : M16 b) (h : ∀ n : Int, 0 ≤ n → n < 16 → (tb a n ↔ tb b n)) : a = b := tb_ext ha.1 hb.1 fun n h0 h1 => by
  by_cases q : n < 16
  · exact h n h0 q
  · exact ⟨fun z => absurd z (ha.2 n (by omega) h1), fun z => absurd z (hb.2 n (by omega) h1)⟩
theorem M16_ne0 {a : Int} (ha : M16 a) : a ≠ 0 ↔ ∃ n : Int, 0 ≤ n ∧ n < 16 ∧ tb a n := by
  constructor
  · intro h
    refine Classical.byContradiction fun q => h (M16_ext ha M16_0 fun n h0 h1 => ?_)
    exact ⟨fun z => absurd ⟨n, h0, h1, z⟩ q, fun z => absurd z (tb_zero h0 (by omega))⟩
  · rintro ⟨n, h0, h1, h2⟩ rfl
    exact tb_zero h0 (by omega) h2
end
section
/-! parts of cells changed at once -/
noncomputable def pI (P : Prop) (a b : Int) : Int := @ite Int P (Classical.propDecidable P) a b
theorem pI_t {P : Prop} {a b : Int} (h : P) : pI P a b = a := @if_pos P (Classical.propDecidable P) h Int a b
theorem pI_f {P : Prop} {a b : Int} (h : ¬ P) : pI P a b = b := @if_neg P (Classical.propDecidable P) h Int a b
noncomputable def pIR (P : Prop) (a b : zI) : zI := @ite zI P (Classical.propDecidable P) a b
theorem pIR_t {P : Prop} {a b : zI} (h : P) : pIR P a b = a := @if_pos P (Classical.propDecidable P) h zI a b
theorem pIR_f {P : Prop} {a b : zI} (h : ¬ P) : pIR P a b = b := @if_neg P (Classical.propDecidable P) h zI a b
theorem pI_congr {P P1 : Prop} {a b : Int} (h : P ↔ P1) : pI P a b = pI P1 a b := by rw [propext h]
/-- where P holds the places become f -/
noncomputable def ch (R : zI) (P : Nat → Int → Prop) (f : Nat → Int → Int) : zI := fun b j => pI (P b j) (f b j) (R b j)
theorem ch_t {R : zI} {P : Nat → Int → Prop} {f : Nat → Int → Int} {b : Nat} {j : Int} (h : P b j) : ch R P f b j = f b j := pI_t h
theorem ch_f {R : zI} {P : Nat → Int → Prop} {f : Nat → Int → Int} {b : Nat} {j : Int} (h : ¬ P b j) : ch R P f b j = R b j := pI_f h
theorem ch_none {R : zI} {P : Nat → Int → Prop} {f : Nat → Int → Int} (h : ∀ b j, ¬ P b j) : ch R P f = R := by
  funext b j
  exact ch_f (h b j)
theorem ch_congr {R : zI} {P P1 : Nat → Int → Prop} {f : Nat → Int → Int} (h : ∀ b j, P b j ↔ P1 b j) : ch R P f = ch R P1 f := by
  funext b j
  exact pI_congr (h b j)
theorem ch_step {R : zI} {P P1 : Nat → Int → Prop} {f : Nat → Int → Int} {a : Nat} {k v : Int} (hv : v = f a k) (h : ∀ b j, P1 b j ↔ (P b j ∨ (b = a ∧ j = k))) : zU (ch R P f) a k v = ch R P1 f := by
  funext b j
  unfold zU
  by_cases hb : b = a ∧ j = k
  · rw [if_pos hb, ch_t ((h b j).mpr (.inr hb))]
    obtain ⟨rfl, rfl⟩ := hb
    exact hv
  · rw [if_neg hb]
    exact pI_congr ⟨fun q => (h b j).mpr (.inl q), fun q => ((h b j).mp q).resolve_right hb⟩
/-- a row filled up to n -/
noncomputable abbrev fl (R : zI) (A : Nat) (n v : Int) : zI := ch R (fun b j => b = A ∧ 0 ≤ j ∧ j < n) (fun _ _ => v)
theorem gI_free {c : zC} {R : zI} {a : Nat} {k : Int} (h2 : a ≠ 2) (h6 : a ≠ 6) (h7 : a ≠ 7) (h8 : a ≠ 8) (h32 : a ≠ 32) : gI c R a k = R a k := by
  unfold gI
  split <;> first | rfl | contradiction
def nr (c : zC) (p q d : Int) : Prop := lay c p = lay c q ∧ xo c p - xo c q ≤ d ∧ xo c q - xo c p ≤ d ∧ yo c p - yo c q ≤ d ∧ yo c q - yo c p ≤ d
section GL
variable {mid pc x y : Nat} {k : Int32} {M : pmM} {l : zL} {st r : List zV} {c : zC} {R : zI} {Q : zO → zW → Prop}
theorem gz_alen {a : Nat} {q : FieldType × Nat} (hG : pgG mid = some M) (hc : pmCode M pc = some (.arraylength, x, y, k)) (hh : hd0 c.2.2.1 c.2.2.2.1 a = .inl q) (ha : a ≤ 55) (K : ZX mid (pc + 1) l (.inl (q.2 : Int) :: r) (wr c R) Q) : ZX mid pc l (.inr (.inr a) :: r) (wr c R) Q := by
  have hB : zB .arraylength x y pc l (.inr (.inr a) :: r) (wr c R) = some (pc + 1, l, .inl (q.2 : Int) :: r, wr c R) := by
    simp only [zB]
    rw [show hd0 (wr c R).2.2.1 (wr c R).2.2.2.1 a = .inl q from hh]
    simp only
    rw [decide_eq_true ha]
  exact PX.step (fun n => pmX_B hG hc (pmB_A (zB_c hB)) (zB_c hB)) K
end GL
set_option maxHeartbeats 1000000 in
theorem s_fill {c : zC} {R : zI} {A n : Nat} {v : Int} (hh : hd0 c.2.2.1 c.2.2.2.1 A = .inl (.int, n)) (ha : 1 ≤ A ∧ A ≤ 55) (hf : A ≠ 2 ∧ A ≠ 6 ∧ A ≠ 7 ∧ A ≠ 8 ∧ A ≠ 32) (hn : n < 2 ^ 31) : MZ m_J7_fill_53178 [zr A, zi v] (wr c R) (gU (fun R1 => R1 = fl R A n v) c) := by
  refine MZ.of g_J7_fill_53178 ?_
  show ZX m_J7_fill_53178 0 [some (zr A), some (zi v), none, none] [] (wr c R) _
  refine zx_go (pc1 := 3) (l1 := [some (zr A), some (zi v), some (zi 0), none]) (st1 := [zr A]) (w1 := wr c R) g_J7_fill_53178 3 _ _ _ _ rfl ?_
  refine gz_alen g_J7_fill_53178 rfl hh ha.2 ?_
  refine zx_go (pc1 := 5) (l1 := [some (zr A), some (zi v), some (zi 0), some (zi (n : Int))]) (st1 := []) (w1 := wr c R) g_J7_fill_53178 1 _ _ _ _ rfl ?_
  have lp : ∀ (m : Nat) (i : Int) (R1 : zI), (m : Int) = n - i → (0 ≤ i ∧ R1 = fl R A i v) → ZX m_J7_fill_53178 5 [some (zr A), some (zi v), some (zi i), some (zi (n : Int))] [] (wr c R1) (gU (fun R1 => R1 = fl R A n v) c) := by
    refine fun m => Nat.strongRecOn m (fun m ih => ?_)
    intro i R1 hm ⟨i0, hR⟩
    refine zx_go (pc1 := 7) (l1 := [some (zr A), some (zi v), some (zi i), some (zi (n : Int))]) (st1 := [zi (n : Int), zi i]) (w1 := wr c R1) g_J7_fill_53178 2 _ _ _ _ rfl ?_
    refine zx_cmp g_J7_fill_53178 rfl (by omega) (by omega) (fun (h7 : (n : Int) ≤ i) => ?_) (fun (h7 : ¬ ((n : Int) ≤ i)) => ?_)
    · refine zx_vret g_J7_fill_53178 rfl ?_
      have e : i = n := by omega
      subst e
      exact gU_i hR
    · refine zx_go (pc1 := 13) (l1 := [some (zr A), some (zi v), some (zi i), some (zi (n : Int))]) (st1 := [zi v, zi i, zr A]) (w1 := wr c R1) g_J7_fill_53178 3 _ _ _ _ rfl ?_
      refine gz_iast g_J7_fill_53178 rfl hh ha ⟨hf.2.1, hf.2.2.1, hf.2.2.2.1, fun q => absurd q hf.1, fun q => absurd q hf.2.2.2.2⟩ hn i0 (by omega) ?_
      refine zx_go (pc1 := 5) (l1 := [some (zr A), some (zi v), some (zi (i + 1)), some (zi (n : Int))]) (st1 := []) (w1 := wr c (zU R1 A i v)) g_J7_fill_53178 2 _ _ _ _ rfl ?_
      refine ih (Int.toNat (n - (i + 1))) (by omega) (i + 1) _ (by omega) ⟨by omega, ?_⟩
      rw [hR]
      refine ch_step rfl fun b j => ?_
      constructor
      · rintro ⟨q1, q2, q3⟩
        by_cases q : j = i
        · exact .inr ⟨q1, q⟩
        · exact .inl ⟨q1, q2, by omega⟩
      · rintro (⟨q1, q2, q3⟩ | ⟨q1, q2⟩)
        · exact ⟨q1, q2, by omega⟩
        · exact ⟨q1, by omega, by omega⟩
  refine lp n 0 R (by omega) ⟨by omega, ?_⟩
  exact (ch_none (fun b j q => by have := q.2; omega)).symm
/-- the left-th from i on of which P holds, among n, or -1 -/
noncomputable def kth (P : Int → Prop) : Nat → Int → Int → Int
  | 0, _, _ => -1
  | n + 1, i, left => pI (P i) (if left = 0 then i else kth P n (i + 1) (left - 1)) (kth P n (i + 1) left)
theorem kth_neg {P : Int → Prop} : ∀ (n : Nat) (i left : Int), left < 0 → kth P n i left = -1
  | 0, _, _, _ => rfl
  | n + 1, i, left, h => by
    unfold kth
    rw [kth_neg n (i + 1) left h, if_neg (by omega), kth_neg n (i + 1) (left - 1) (by omega)]
    by_cases q : P i
    · rw [pI_t q]
    · rw [pI_f q]
theorem kth_y {P : Int → Prop} {N i left : Int} (h : i < N) (hp : P i) (hl : left ≠ 0) : kth P (N - i).toNat i left = kth P (N - (i + 1)).toNat (i + 1) (left - 1) := by
  rw [show (N - i).toNat = (N - (i + 1)).toNat + 1 by omega]
  rw [kth, pI_t hp, if_neg hl]
theorem kth_0 {P : Int → Prop} {N i left : Int} (h : i < N) (hp : P i) (hl : left = 0) : kth P (N - i).toNat i left = i := by
  rw [show (N - i).toNat = (N - (i + 1)).toNat + 1 by omega]
  rw [kth, pI_t hp, if_pos hl]
theorem kth_n {P : Int → Prop} {N i left : Int} (h : i < N) (hp : ¬ P i) : kth P (N - i).toNat i left = kth P (N - (i + 1)).toNat (i + 1) left := by
  rw [show (N - i).toNat = (N - (i + 1)).toNat + 1 by omega]
  rw [kth, pI_f hp]
theorem kth_e {P : Int → Prop} {N i left : Int} (h : N ≤ i) : kth P (N - i).toNat i left = -1 := by
  rw [show (N - i).toNat = 0 by omega]
  rfl
theorem kth_congr {P P1 : Int → Prop} : ∀ (n : Nat) (i left : Int), (∀ j, i ≤ j → j < i + n → (P j ↔ P1 j)) → kth P n i left = kth P1 n i left
  | 0, _, _, _ => rfl
  | n + 1, i, left, h => by
    unfold kth
    rw [kth_congr n (i + 1) left (fun j h1 h2 => h j (by omega) (by omega)), kth_congr n (i + 1) (left - 1) (fun j h1 h2 => h j (by omega) (by omega))]
    exact pI_congr (h i (by omega) (by omega))
theorem kth_lt {P : Int → Prop} : ∀ (n : Nat) (i left : Int), kth P n i left = -1 ∨ (i ≤ kth P n i left ∧ kth P n i left < i + n ∧ P (kth P n i left))
  | 0, _, _ => .inl rfl
  | n + 1, i, left => by
    unfold kth
    have h1 := kth_lt (P := P) n (i + 1) left
    have h2 := kth_lt (P := P) n (i + 1) (left - 1)
    by_cases q : P i
    · rw [pI_t q]
      by_cases z : left = 0
      · rw [if_pos z]
        exact .inr ⟨by omega, by omega, q⟩
      · rw [if_neg z]
        rcases h2 with h2 | ⟨a, b, e⟩
        · exact .inl h2
        · exact .inr ⟨by omega, by omega, e⟩
    · rw [pI_f q]
      rcases h1 with h1 | ⟨a, b, e⟩
      · exact .inl h1
      · exact .inr ⟨by omega, by omega, e⟩
/-- r is the first below n of which P holds, or -1 -/
def fstI (P : Int → Prop) (n r : Int) : Prop := (0 ≤ r ∧ r < n ∧ P r ∧ ∀ j, 0 ≤ j → j < r → ¬ P j) ∨ (r = -1 ∧ ∀ j, 0 ≤ j → j < n → ¬ P j)
theorem fstI_uniq {P P1 : Int → Prop} {n r r1 : Int} (hP : ∀ j, 0 ≤ j → j < n → (P j ↔ P1 j)) (h : fstI P n r) (h1 : fstI P1 n r1) : r = r1 := by
  rcases h with ⟨a1, a2, a3, a4⟩ | ⟨a1, a2⟩ <;> rcases h1 with ⟨b1, b2, b3, b4⟩ | ⟨b1, b2⟩
  · by_cases q : r < r1
    · exact absurd ((hP r a1 a2).mp a3) (b4 r a1 q)
    · by_cases z : r1 < r
      · exact absurd ((hP r1 b1 b2).mpr b3) (a4 r1 b1 z)
      · omega
  · exact absurd ((hP r a1 a2).mp a3) (b2 r a1 a2)
  · exact absurd ((hP r1 b1 b2).mpr b3) (a2 r1 b1 b2)
  · omega
end
section
/-! ===== contracts (1): small methods of the class ===== -/
/-- the place beside, or -1 -/
def bes (c : zC) (p d : Int) : Int :=
  if d = 0 then (if 0 < xo c p then p - 1 else -1) else if d = 1 then (if xo c p < cW c - 1 then p + 1 else -1) else
  if d = 2 then (if 0 < yo c p then p - cW c else -1) else if d = 3 then (if yo c p < cH c - 1 then p + cW c else -1) else
  if d = 4 then (if 0 < lay c p then p - cW c * cH c else -1) else if d = 5 then (if lay c p < cLa c - 1 then p + cW c * cH c else -1) else -1

set_option maxHeartbeats 1000000 in
theorem s_isIn {c : zC} {R : zI} (m n : Int) : MZ m_X5_isIn [zi m, zi n] (wr c R) (qF (zi (bI (tb m n))) (wr c R)) := by
  refine MZ.of g_X5_isIn ?_
  show ZX m_X5_isIn 0 [some (zi m), some (zi n)] [] (wr c R) _
  refine zx_go (pc1 := 5) (l1 := [some (zi m), some (zi n)]) (st1 := [zi (zand (zshr m n) 1)]) (w1 := wr c R) g_X5_isIn 5 _ _ _ _ rfl ?_
  refine zx_if g_X5_isIn rfl (zand_R _ _) (fun (h5 : (zand (zshr m n) 1) = 0) => ?_) (fun (h5 : ¬ (zand (zshr m n) 1) = 0) => ?_)
  · refine zx_go (pc1 := 13) (l1 := [some (zi m), some (zi n)]) (st1 := [zi 0]) (w1 := wr c R) g_X5_isIn 1 _ _ _ _ rfl ?_
    refine zx_iret g_X5_isIn rfl (.inr (.inl rfl)) ?_
    exact qF_f (fun q => q h5)
  · refine zx_go (pc1 := 13) (l1 := [some (zi m), some (zi n)]) (st1 := [zi 1]) (w1 := wr c R) g_X5_isIn 2 _ _ _ _ rfl ?_
    refine zx_iret g_X5_isIn rfl (.inr (.inr rfl)) ?_
    exact qF_t (by first | exact h5 | (intro q; exact h5 q))

set_option maxHeartbeats 1000000 in
theorem s_placeAt {c : zC} {R : zI} (z x y : Int) : MZ m_X2_placeAt [zr 2, zi z, zi x, zi y] (wr c R) (qF (zi (pl c z x y)) (wr c R)) := by
  refine MZ.of g_X2_placeAt ?_
  show ZX m_X2_placeAt 0 [some (zr 2), some (zi z), some (zi x), some (zi y)] [] (wr c R) _
  refine zx_go (pc1 := 15) (l1 := [some (zr 2), some (zi z), some (zi x), some (zi y)]) (st1 := [zi (((z * (cW c * cH c)) + (y * (cW c))) + x)]) (w1 := wr c R) g_X2_placeAt 11 _ _ _ _ rfl ?_
  refine zx_iret g_X2_placeAt rfl (.inl rfl) ?_
  exact qF_i (by rfl)

set_option maxHeartbeats 1000000 in
theorem s_beside {c : zC} {R : zI} (hg : Geo c) {p : Int} (h0 : 0 ≤ p) (h1 : p < (cS c : Int)) {d : Int} (hd : inR d) : MZ m_X2_beside [zr 2, zi p, zi d] (wr c R) (qF (zi (bes c p d)) (wr c R)) := by
  refine MZ.of g_X2_beside ?_
  show ZX m_X2_beside 0 [some (zr 2), some (zi p), some (zi d)] [] (wr c R) _
  have g1 := place_geo hg h0 h1; have g2 := hg; unfold Geo at g2; have g3 := hg.S
  refine zx_go (pc1 := 1) (l1 := [some (zr 2), some (zi p), some (zi d)]) (st1 := [zi d]) (w1 := wr c R) g_X2_beside 1 _ _ _ _ rfl ?_
  by_cases h1_0 : d = 0
  · refine zx_swE g_X2_beside rfl h1_0 (by decide) (t := 40) rfl ?_
    refine zx_go (pc1 := 45) (l1 := [some (zr 2), some (zi p), some (zi d)]) (st1 := [zi p, zr 7]) (w1 := wr c R) g_X2_beside 3 _ _ _ _ rfl ?_
    refine gz_ld7 g_X2_beside rfl hg (by omega) (by omega) ?_
    refine zx_if g_X2_beside rfl (by omega) (fun (h46 : (xo c p) ≤ 0) => ?_) (fun (h46 : ¬ (xo c p) ≤ 0) => ?_)
    · refine zx_go (pc1 := 56) (l1 := [some (zr 2), some (zi p), some (zi d)]) (st1 := [zi (-1)]) (w1 := wr c R) g_X2_beside 1 _ _ _ _ rfl ?_
      refine zx_iret g_X2_beside rfl (.inl rfl) ?_
      refine qF_i ?_
      unfold bes
      omega
    · refine zx_go (pc1 := 56) (l1 := [some (zr 2), some (zi p), some (zi d)]) (st1 := [zi (p - 1)]) (w1 := wr c R) g_X2_beside 4 _ _ _ _ rfl ?_
      refine zx_iret g_X2_beside rfl (.inl rfl) ?_
      refine qF_i ?_
      unfold bes
      omega
  · skip
    by_cases h1_1 : d = 1
    · refine zx_swE g_X2_beside rfl h1_1 (by decide) (t := 57) rfl ?_
      refine zx_go (pc1 := 62) (l1 := [some (zr 2), some (zi p), some (zi d)]) (st1 := [zi p, zr 7]) (w1 := wr c R) g_X2_beside 3 _ _ _ _ rfl ?_
      refine gz_ld7 g_X2_beside rfl hg (by omega) (by omega) ?_
      refine zx_go (pc1 := 69) (l1 := [some (zr 2), some (zi p), some (zi d)]) (st1 := [zi ((cW c) - 1), zi (xo c p)]) (w1 := wr c R) g_X2_beside 4 _ _ _ _ rfl ?_
      refine zx_cmp g_X2_beside rfl (by omega) (by omega) (fun (h69 : ((cW c) - 1) ≤ (xo c p)) => ?_) (fun (h69 : ¬ (((cW c) - 1) ≤ (xo c p))) => ?_)
      · refine zx_go (pc1 := 79) (l1 := [some (zr 2), some (zi p), some (zi d)]) (st1 := [zi (-1)]) (w1 := wr c R) g_X2_beside 1 _ _ _ _ rfl ?_
        refine zx_iret g_X2_beside rfl (.inl rfl) ?_
        refine qF_i ?_
        unfold bes
        omega
      · refine zx_go (pc1 := 79) (l1 := [some (zr 2), some (zi p), some (zi d)]) (st1 := [zi (p + 1)]) (w1 := wr c R) g_X2_beside 4 _ _ _ _ rfl ?_
        refine zx_iret g_X2_beside rfl (.inl rfl) ?_
        refine qF_i ?_
        unfold bes
        omega
    · skip
      by_cases h1_2 : d = 2
      · refine zx_swE g_X2_beside rfl h1_2 (by decide) (t := 80) rfl ?_
        refine zx_go (pc1 := 85) (l1 := [some (zr 2), some (zi p), some (zi d)]) (st1 := [zi p, zr 8]) (w1 := wr c R) g_X2_beside 3 _ _ _ _ rfl ?_
        refine gz_ld8 g_X2_beside rfl hg (by omega) (by omega) ?_
        refine zx_if g_X2_beside rfl (by omega) (fun (h86 : (yo c p) ≤ 0) => ?_) (fun (h86 : ¬ (yo c p) ≤ 0) => ?_)
        · refine zx_go (pc1 := 99) (l1 := [some (zr 2), some (zi p), some (zi d)]) (st1 := [zi (-1)]) (w1 := wr c R) g_X2_beside 1 _ _ _ _ rfl ?_
          refine zx_iret g_X2_beside rfl (.inl rfl) ?_
          refine qF_i ?_
          unfold bes
          omega
        · refine zx_go (pc1 := 99) (l1 := [some (zr 2), some (zi p), some (zi d)]) (st1 := [zi (p - (cW c))]) (w1 := wr c R) g_X2_beside 5 _ _ _ _ rfl ?_
          refine zx_iret g_X2_beside rfl (.inl rfl) ?_
          refine qF_i ?_
          unfold bes
          omega
      · skip
        by_cases h1_3 : d = 3
        · refine zx_swE g_X2_beside rfl h1_3 (by decide) (t := 100) rfl ?_
          refine zx_go (pc1 := 105) (l1 := [some (zr 2), some (zi p), some (zi d)]) (st1 := [zi p, zr 8]) (w1 := wr c R) g_X2_beside 3 _ _ _ _ rfl ?_
          refine gz_ld8 g_X2_beside rfl hg (by omega) (by omega) ?_
          refine zx_go (pc1 := 112) (l1 := [some (zr 2), some (zi p), some (zi d)]) (st1 := [zi ((cH c) - 1), zi (yo c p)]) (w1 := wr c R) g_X2_beside 4 _ _ _ _ rfl ?_
          refine zx_cmp g_X2_beside rfl (by omega) (by omega) (fun (h112 : ((cH c) - 1) ≤ (yo c p)) => ?_) (fun (h112 : ¬ (((cH c) - 1) ≤ (yo c p))) => ?_)
          · refine zx_go (pc1 := 125) (l1 := [some (zr 2), some (zi p), some (zi d)]) (st1 := [zi (-1)]) (w1 := wr c R) g_X2_beside 1 _ _ _ _ rfl ?_
            refine zx_iret g_X2_beside rfl (.inl rfl) ?_
            refine qF_i ?_
            unfold bes
            omega
          · refine zx_go (pc1 := 125) (l1 := [some (zr 2), some (zi p), some (zi d)]) (st1 := [zi (p + (cW c))]) (w1 := wr c R) g_X2_beside 5 _ _ _ _ rfl ?_
            refine zx_iret g_X2_beside rfl (.inl rfl) ?_
            refine qF_i ?_
            unfold bes
            omega
        · skip
          by_cases h1_4 : d = 4
          · refine zx_swE g_X2_beside rfl h1_4 (by decide) (t := 126) rfl ?_
            refine zx_go (pc1 := 131) (l1 := [some (zr 2), some (zi p), some (zi d)]) (st1 := [zi p, zr 6]) (w1 := wr c R) g_X2_beside 3 _ _ _ _ rfl ?_
            refine gz_ld6 g_X2_beside rfl hg (by omega) (by omega) ?_
            refine zx_if g_X2_beside rfl (by omega) (fun (h132 : (lay c p) ≤ 0) => ?_) (fun (h132 : ¬ (lay c p) ≤ 0) => ?_)
            · refine zx_go (pc1 := 145) (l1 := [some (zr 2), some (zi p), some (zi d)]) (st1 := [zi (-1)]) (w1 := wr c R) g_X2_beside 1 _ _ _ _ rfl ?_
              refine zx_iret g_X2_beside rfl (.inl rfl) ?_
              refine qF_i ?_
              unfold bes
              omega
            · refine zx_go (pc1 := 145) (l1 := [some (zr 2), some (zi p), some (zi d)]) (st1 := [zi (p - (cW c * cH c))]) (w1 := wr c R) g_X2_beside 5 _ _ _ _ rfl ?_
              refine zx_iret g_X2_beside rfl (.inl rfl) ?_
              refine qF_i ?_
              unfold bes
              omega
          · skip
            by_cases h1_5 : d = 5
            · refine zx_swE g_X2_beside rfl h1_5 (by decide) (t := 146) rfl ?_
              refine zx_go (pc1 := 151) (l1 := [some (zr 2), some (zi p), some (zi d)]) (st1 := [zi p, zr 6]) (w1 := wr c R) g_X2_beside 3 _ _ _ _ rfl ?_
              refine gz_ld6 g_X2_beside rfl hg (by omega) (by omega) ?_
              refine zx_go (pc1 := 158) (l1 := [some (zr 2), some (zi p), some (zi d)]) (st1 := [zi ((cLa c) - 1), zi (lay c p)]) (w1 := wr c R) g_X2_beside 4 _ _ _ _ rfl ?_
              refine zx_cmp g_X2_beside rfl (by omega) (by omega) (fun (h158 : ((cLa c) - 1) ≤ (lay c p)) => ?_) (fun (h158 : ¬ (((cLa c) - 1) ≤ (lay c p))) => ?_)
              · refine zx_go (pc1 := 171) (l1 := [some (zr 2), some (zi p), some (zi d)]) (st1 := [zi (-1)]) (w1 := wr c R) g_X2_beside 1 _ _ _ _ rfl ?_
                refine zx_iret g_X2_beside rfl (.inl rfl) ?_
                refine qF_i ?_
                unfold bes
                omega
              · refine zx_go (pc1 := 171) (l1 := [some (zr 2), some (zi p), some (zi d)]) (st1 := [zi (p + (cW c * cH c))]) (w1 := wr c R) g_X2_beside 5 _ _ _ _ rfl ?_
                refine zx_iret g_X2_beside rfl (.inl rfl) ?_
                refine qF_i ?_
                unfold bes
                omega
            · skip
              refine zx_swD g_X2_beside rfl (by omega) (by omega) (t := 172) rfl ?_
              refine zx_go (pc1 := 173) (l1 := [some (zr 2), some (zi p), some (zi d)]) (st1 := [zi (-1)]) (w1 := wr c R) g_X2_beside 1 _ _ _ _ rfl ?_
              refine zx_iret g_X2_beside rfl (.inl rfl) ?_
              refine qF_i ?_
              unfold bes
              omega

/-- what a step between neighbours costs -/
def scost (c : zC) (vi jg : Int → Int) (p q : Int) : Int := if lay c q ≠ lay c p then vi (min (lay c p) (lay c q)) else if (yo c p = yo c q ↔ lay c p % 2 = 0) then 1 else 1 + jg (lay c p)

set_option maxHeartbeats 1000000 in
theorem s_stepCost {c : zC} {R : zI} (hg : Geo c) {p q : Int} (h0 : 0 ≤ p) (h1 : p < (cS c : Int)) (h2 : 0 ≤ q) (h3 : q < (cS c : Int)) : MZ m_X2_stepCost [zr 2, zi p, zi q] (wr c R) (qF (zi (scost c (R 5) (R 4) p q)) (wr c R)) := by
  refine MZ.of g_X2_stepCost ?_
  show ZX m_X2_stepCost 0 [some (zr 2), some (zi p), some (zi q), none, none, none] [] (wr c R) _
  have g1 := place_geo hg h0 h1; have g0 := place_geo hg h2 h3; have g2 := hg; unfold Geo at g2; have g3 := hg.S
  refine zx_go (pc1 := 5) (l1 := [some (zr 2), some (zi p), some (zi q), none, none, none]) (st1 := [zi p, zr 6]) (w1 := wr c R) g_X2_stepCost 3 _ _ _ _ rfl ?_
  refine gz_ld6 g_X2_stepCost rfl hg (by omega) (by omega) ?_
  refine zx_go (pc1 := 12) (l1 := [some (zr 2), some (zi p), some (zi q), some (zi (lay c p)), none, none]) (st1 := [zi q, zr 6]) (w1 := wr c R) g_X2_stepCost 4 _ _ _ _ rfl ?_
  refine gz_ld6 g_X2_stepCost rfl hg (by omega) (by omega) ?_
  refine zx_go (pc1 := 14) (l1 := [some (zr 2), some (zi p), some (zi q), some (zi (lay c p)), none, none]) (st1 := [zi (lay c p), zi (lay c q)]) (w1 := wr c R) g_X2_stepCost 1 _ _ _ _ rfl ?_
  refine zx_cmp g_X2_stepCost rfl (by omega) (by omega) (fun (h14 : (lay c q) = (lay c p)) => ?_) (fun (h14 : ¬ ((lay c q) = (lay c p))) => ?_)
  · refine zx_go (pc1 := 38) (l1 := [some (zr 2), some (zi p), some (zi q), some (zi (lay c p)), none, none]) (st1 := [zi p, zr 8]) (w1 := wr c R) g_X2_stepCost 3 _ _ _ _ rfl ?_
    refine gz_ld8 g_X2_stepCost rfl hg (by omega) (by omega) ?_
    refine zx_go (pc1 := 44) (l1 := [some (zr 2), some (zi p), some (zi q), some (zi (lay c p)), none, none]) (st1 := [zi q, zr 8, zi (yo c p)]) (w1 := wr c R) g_X2_stepCost 3 _ _ _ _ rfl ?_
    refine gz_ld8 g_X2_stepCost rfl hg (by omega) (by omega) ?_
    refine zx_cmp g_X2_stepCost rfl (by omega) (by omega) (fun (h45 : (yo c p) ≠ (yo c q)) => ?_) (fun (h45 : ¬ ((yo c p) ≠ (yo c q))) => ?_)
    · refine zx_go (pc1 := 57) (l1 := [some (zr 2), some (zi p), some (zi q), some (zi (lay c p)), some (zi 0), none]) (st1 := [zi 2, zi (lay c p)]) (w1 := wr c R) g_X2_stepCost 4 _ _ _ _ rfl ?_
      refine zx_irem g_X2_stepCost rfl (by omega) (by omega) (by omega) (by omega) ?_
      refine zx_if g_X2_stepCost rfl (by omega) (fun (h58 : ((lay c p) % 2) ≠ 0) => ?_) (fun (h58 : ¬ ((lay c p) % 2) ≠ 0) => ?_)
      · refine zx_go (pc1 := 72) (l1 := [some (zr 2), some (zi p), some (zi q), some (zi (lay c p)), some (zi 0), some (zi 0)]) (st1 := [zi 0, zi 0]) (w1 := wr c R) g_X2_stepCost 4 _ _ _ _ rfl ?_
        refine zx_cmp g_X2_stepCost rfl (by decide) (by decide) (fun (h72 : 0 ≠ 0) => ?_) (fun (h72 : ¬ (0 ≠ 0)) => ?_)
        · refine zx_go (pc1 := 85) (l1 := [some (zr 2), some (zi p), some (zi q), some (zi (lay c p)), some (zi 0), some (zi 0)]) (st1 := [zi (lay c p), zr 4, zi 1]) (w1 := wr c R) g_X2_stepCost 4 _ _ _ _ rfl ?_
          refine gz_iald g_X2_stepCost rfl (n := 3) rfl (by decide) rfl (by decide) (by omega) (by omega) ?_
          refine zx_go (pc1 := 87) (l1 := [some (zr 2), some (zi p), some (zi q), some (zi (lay c p)), some (zi 0), some (zi 0)]) (st1 := [zi (1 + (R 4 (lay c p)))]) (w1 := wr c R) g_X2_stepCost 1 _ _ _ _ rfl ?_
          refine zx_iret g_X2_stepCost rfl (.inl rfl) ?_
          refine qF_i ?_
          unfold scost
          first | (rw [if_pos (by omega)]; done) | (rw [if_neg (by omega), if_pos (by omega)]; done) | (rw [if_neg (by omega), if_neg (by omega)]; done)
        · refine zx_go (pc1 := 87) (l1 := [some (zr 2), some (zi p), some (zi q), some (zi (lay c p)), some (zi 0), some (zi 0)]) (st1 := [zi 1]) (w1 := wr c R) g_X2_stepCost 2 _ _ _ _ rfl ?_
          refine zx_iret g_X2_stepCost rfl (.inl rfl) ?_
          refine qF_i ?_
          unfold scost
          first | (rw [if_pos (by omega)]; done) | (rw [if_neg (by omega), if_pos (by omega)]; done) | (rw [if_neg (by omega), if_neg (by omega)]; done)
      · refine zx_go (pc1 := 72) (l1 := [some (zr 2), some (zi p), some (zi q), some (zi (lay c p)), some (zi 0), some (zi 1)]) (st1 := [zi 1, zi 0]) (w1 := wr c R) g_X2_stepCost 5 _ _ _ _ rfl ?_
        refine zx_cmp g_X2_stepCost rfl (by decide) (by decide) (fun (h72 : 0 ≠ 1) => ?_) (fun (h72 : ¬ (0 ≠ 1)) => ?_)
        · refine zx_go (pc1 := 85) (l1 := [some (zr 2), some (zi p), some (zi q), some (zi (lay c p)), some (zi 0), some (zi 1)]) (st1 := [zi (lay c p), zr 4, zi 1]) (w1 := wr c R) g_X2_stepCost 4 _ _ _ _ rfl ?_
          refine gz_iald g_X2_stepCost rfl (n := 3) rfl (by decide) rfl (by decide) (by omega) (by omega) ?_
          refine zx_go (pc1 := 87) (l1 := [some (zr 2), some (zi p), some (zi q), some (zi (lay c p)), some (zi 0), some (zi 1)]) (st1 := [zi (1 + (R 4 (lay c p)))]) (w1 := wr c R) g_X2_stepCost 1 _ _ _ _ rfl ?_
          refine zx_iret g_X2_stepCost rfl (.inl rfl) ?_
          refine qF_i ?_
          unfold scost
          first | (rw [if_pos (by omega)]; done) | (rw [if_neg (by omega), if_pos (by omega)]; done) | (rw [if_neg (by omega), if_neg (by omega)]; done)
        · refine zx_go (pc1 := 87) (l1 := [some (zr 2), some (zi p), some (zi q), some (zi (lay c p)), some (zi 0), some (zi 1)]) (st1 := [zi 1]) (w1 := wr c R) g_X2_stepCost 2 _ _ _ _ rfl ?_
          refine zx_iret g_X2_stepCost rfl (.inl rfl) ?_
          refine qF_i ?_
          unfold scost
          first | (rw [if_pos (by omega)]; done) | (rw [if_neg (by omega), if_pos (by omega)]; done) | (rw [if_neg (by omega), if_neg (by omega)]; done)
    · refine zx_go (pc1 := 57) (l1 := [some (zr 2), some (zi p), some (zi q), some (zi (lay c p)), some (zi 1), none]) (st1 := [zi 2, zi (lay c p)]) (w1 := wr c R) g_X2_stepCost 5 _ _ _ _ rfl ?_
      refine zx_irem g_X2_stepCost rfl (by omega) (by omega) (by omega) (by omega) ?_
      refine zx_if g_X2_stepCost rfl (by omega) (fun (h58 : ((lay c p) % 2) ≠ 0) => ?_) (fun (h58 : ¬ ((lay c p) % 2) ≠ 0) => ?_)
      · refine zx_go (pc1 := 72) (l1 := [some (zr 2), some (zi p), some (zi q), some (zi (lay c p)), some (zi 1), some (zi 0)]) (st1 := [zi 0, zi 1]) (w1 := wr c R) g_X2_stepCost 4 _ _ _ _ rfl ?_
        refine zx_cmp g_X2_stepCost rfl (by decide) (by decide) (fun (h72 : 1 ≠ 0) => ?_) (fun (h72 : ¬ (1 ≠ 0)) => ?_)
        · refine zx_go (pc1 := 85) (l1 := [some (zr 2), some (zi p), some (zi q), some (zi (lay c p)), some (zi 1), some (zi 0)]) (st1 := [zi (lay c p), zr 4, zi 1]) (w1 := wr c R) g_X2_stepCost 4 _ _ _ _ rfl ?_
          refine gz_iald g_X2_stepCost rfl (n := 3) rfl (by decide) rfl (by decide) (by omega) (by omega) ?_
          refine zx_go (pc1 := 87) (l1 := [some (zr 2), some (zi p), some (zi q), some (zi (lay c p)), some (zi 1), some (zi 0)]) (st1 := [zi (1 + (R 4 (lay c p)))]) (w1 := wr c R) g_X2_stepCost 1 _ _ _ _ rfl ?_
          refine zx_iret g_X2_stepCost rfl (.inl rfl) ?_
          refine qF_i ?_
          unfold scost
          first | (rw [if_pos (by omega)]; done) | (rw [if_neg (by omega), if_pos (by omega)]; done) | (rw [if_neg (by omega), if_neg (by omega)]; done)
        · refine zx_go (pc1 := 87) (l1 := [some (zr 2), some (zi p), some (zi q), some (zi (lay c p)), some (zi 1), some (zi 0)]) (st1 := [zi 1]) (w1 := wr c R) g_X2_stepCost 2 _ _ _ _ rfl ?_
          refine zx_iret g_X2_stepCost rfl (.inl rfl) ?_
          refine qF_i ?_
          unfold scost
          first | (rw [if_pos (by omega)]; done) | (rw [if_neg (by omega), if_pos (by omega)]; done) | (rw [if_neg (by omega), if_neg (by omega)]; done)
      · refine zx_go (pc1 := 72) (l1 := [some (zr 2), some (zi p), some (zi q), some (zi (lay c p)), some (zi 1), some (zi 1)]) (st1 := [zi 1, zi 1]) (w1 := wr c R) g_X2_stepCost 5 _ _ _ _ rfl ?_
        refine zx_cmp g_X2_stepCost rfl (by decide) (by decide) (fun (h72 : 1 ≠ 1) => ?_) (fun (h72 : ¬ (1 ≠ 1)) => ?_)
        · refine zx_go (pc1 := 85) (l1 := [some (zr 2), some (zi p), some (zi q), some (zi (lay c p)), some (zi 1), some (zi 1)]) (st1 := [zi (lay c p), zr 4, zi 1]) (w1 := wr c R) g_X2_stepCost 4 _ _ _ _ rfl ?_
          refine gz_iald g_X2_stepCost rfl (n := 3) rfl (by decide) rfl (by decide) (by omega) (by omega) ?_
          refine zx_go (pc1 := 87) (l1 := [some (zr 2), some (zi p), some (zi q), some (zi (lay c p)), some (zi 1), some (zi 1)]) (st1 := [zi (1 + (R 4 (lay c p)))]) (w1 := wr c R) g_X2_stepCost 1 _ _ _ _ rfl ?_
          refine zx_iret g_X2_stepCost rfl (.inl rfl) ?_
          refine qF_i ?_
          unfold scost
          first | (rw [if_pos (by omega)]; done) | (rw [if_neg (by omega), if_pos (by omega)]; done) | (rw [if_neg (by omega), if_neg (by omega)]; done)
        · refine zx_go (pc1 := 87) (l1 := [some (zr 2), some (zi p), some (zi q), some (zi (lay c p)), some (zi 1), some (zi 1)]) (st1 := [zi 1]) (w1 := wr c R) g_X2_stepCost 2 _ _ _ _ rfl ?_
          refine zx_iret g_X2_stepCost rfl (.inl rfl) ?_
          refine qF_i ?_
          unfold scost
          first | (rw [if_pos (by omega)]; done) | (rw [if_neg (by omega), if_pos (by omega)]; done) | (rw [if_neg (by omega), if_neg (by omega)]; done)
  · refine zx_go (pc1 := 27) (l1 := [some (zr 2), some (zi p), some (zi q), some (zi (lay c p)), none, none]) (st1 := [zi q, zr 6, zi (lay c p), zr 5]) (w1 := wr c R) g_X2_stepCost 6 _ _ _ _ rfl ?_
    refine gz_ld6 g_X2_stepCost rfl hg (by omega) (by omega) ?_
    refine zx_imin g_X2_stepCost rfl (Nat.le_of_ble_eq_true rfl) (by omega) (by omega) ?_
    refine gz_iald g_X2_stepCost rfl (n := 3) rfl (by decide) rfl (by decide) (by omega) (by omega) ?_
    refine zx_iret g_X2_stepCost rfl (.inl rfl) ?_
    refine qF_i ?_
    unfold scost
    first | (rw [if_pos (by omega)]; done) | (rw [if_neg (by omega), if_pos (by omega)]; done) | (rw [if_neg (by omega), if_neg (by omega)]; done)

set_option maxHeartbeats 1000000 in
theorem s_accessPlace {c : zC} {R : zI} {p k : Int} (h0 : 0 ≤ p) (h1 : p < 40) (h2 : 0 ≤ k) (h3 : k < 4) : MZ m_X0_accessPlace [zr 10, zi p, zi k] (wr c R) (qF (zi (R 14 (p * 4 + k))) (wr c R)) := by
  refine MZ.of g_X0_accessPlace ?_
  show ZX m_X0_accessPlace 0 [some (zr 10), some (zi p), some (zi k)] [] (wr c R) _
  refine zx_go (pc1 := 9) (l1 := [some (zr 10), some (zi p), some (zi k)]) (st1 := [zi ((p * 4) + k), zr 14]) (w1 := wr c R) g_X0_accessPlace 7 _ _ _ _ rfl ?_
  refine gz_iald g_X0_accessPlace rfl (n := 160) rfl (by decide) rfl (by decide) (by omega) (by omega) ?_
  refine zx_iret g_X0_accessPlace rfl (.inl rfl) ?_
  exact qF_i (by rfl)

def bef (f : Int → Int) (a b : Int) : Prop := f a < f b ∨ (f a = f b ∧ a < b)

set_option maxHeartbeats 1000000 in
theorem s_isBefore {c : zC} {R : zI} (hg : Geo c) {a b : Int} (h0 : 0 ≤ a) (h1 : a < (cS c : Int)) (h2 : 0 ≤ b) (h3 : b < (cS c : Int)) (ha : inR (R 26 a)) (hb : inR (R 26 b)) : MZ m_X1_isBefore [zr 25, zi a, zi b] (wr c R) (qF (zi (bI (bef (R 26) a b))) (wr c R)) := by
  refine MZ.of g_X1_isBefore ?_
  show ZX m_X1_isBefore 0 [some (zr 25), some (zi a), some (zi b)] [] (wr c R) _
  have g3 := hg.S
  refine zx_go (pc1 := 5) (l1 := [some (zr 25), some (zi a), some (zi b)]) (st1 := [zi a, zr 26]) (w1 := wr c R) g_X1_isBefore 3 _ _ _ _ rfl ?_
  refine gz_iald g_X1_isBefore rfl (n := cS c) rfl (by decide) rfl (by have := hg.S; omega) (by omega) (by omega) ?_
  refine zx_go (pc1 := 11) (l1 := [some (zr 25), some (zi a), some (zi b)]) (st1 := [zi b, zr 26, zi (R 26 a)]) (w1 := wr c R) g_X1_isBefore 3 _ _ _ _ rfl ?_
  refine gz_iald g_X1_isBefore rfl (n := cS c) rfl (by decide) rfl (by have := hg.S; omega) (by omega) (by omega) ?_
  refine zx_cmp g_X1_isBefore rfl (by omega) (by omega) (fun (h12 : (R 26 a) = (R 26 b)) => ?_) (fun (h12 : ¬ ((R 26 a) = (R 26 b))) => ?_)
  · refine zx_go (pc1 := 40) (l1 := [some (zr 25), some (zi a), some (zi b)]) (st1 := [zi b, zi a]) (w1 := wr c R) g_X1_isBefore 2 _ _ _ _ rfl ?_
    refine zx_cmp g_X1_isBefore rfl (by omega) (by omega) (fun (h40 : b ≤ a) => ?_) (fun (h40 : ¬ (b ≤ a)) => ?_)
    · refine zx_go (pc1 := 48) (l1 := [some (zr 25), some (zi a), some (zi b)]) (st1 := [zi 0]) (w1 := wr c R) g_X1_isBefore 1 _ _ _ _ rfl ?_
      refine zx_iret g_X1_isBefore rfl (.inr (.inl rfl)) ?_
      exact qF_f (by unfold bef; omega)
    · refine zx_go (pc1 := 48) (l1 := [some (zr 25), some (zi a), some (zi b)]) (st1 := [zi 1]) (w1 := wr c R) g_X1_isBefore 2 _ _ _ _ rfl ?_
      refine zx_iret g_X1_isBefore rfl (.inr (.inr rfl)) ?_
      exact qF_t (by unfold bef; omega)
  · refine zx_go (pc1 := 20) (l1 := [some (zr 25), some (zi a), some (zi b)]) (st1 := [zi a, zr 26]) (w1 := wr c R) g_X1_isBefore 3 _ _ _ _ rfl ?_
    refine gz_iald g_X1_isBefore rfl (n := cS c) rfl (by decide) rfl (by have := hg.S; omega) (by omega) (by omega) ?_
    refine zx_go (pc1 := 26) (l1 := [some (zr 25), some (zi a), some (zi b)]) (st1 := [zi b, zr 26, zi (R 26 a)]) (w1 := wr c R) g_X1_isBefore 3 _ _ _ _ rfl ?_
    refine gz_iald g_X1_isBefore rfl (n := cS c) rfl (by decide) rfl (by have := hg.S; omega) (by omega) (by omega) ?_
    refine zx_cmp g_X1_isBefore rfl (by omega) (by omega) (fun (h27 : (R 26 b) ≤ (R 26 a)) => ?_) (fun (h27 : ¬ ((R 26 b) ≤ (R 26 a))) => ?_)
    · refine zx_go (pc1 := 48) (l1 := [some (zr 25), some (zi a), some (zi b)]) (st1 := [zi 0]) (w1 := wr c R) g_X1_isBefore 2 _ _ _ _ rfl ?_
      refine zx_iret g_X1_isBefore rfl (.inr (.inl rfl)) ?_
      exact qF_f (by unfold bef; omega)
    · refine zx_go (pc1 := 48) (l1 := [some (zr 25), some (zi a), some (zi b)]) (st1 := [zi 1]) (w1 := wr c R) g_X1_isBefore 2 _ _ _ _ rfl ?_
      refine zx_iret g_X1_isBefore rfl (.inr (.inr rfl)) ?_
      exact qF_t (by unfold bef; omega)

set_option maxHeartbeats 1000000 in
theorem s_put {c : zC} {R : zI} (hg : Geo c) {p i : Int} (h0 : 0 ≤ p) (h1 : p < (cS c : Int)) (h2 : 0 ≤ i) (h3 : i < (cS c : Int)) : MZ m_X1_put [zr 25, zi p, zi i] (wr c R) (gU (fun R1 => R1 = zU (zU R 27 i p) 28 p i) c) := by
  refine MZ.of g_X1_put ?_
  show ZX m_X1_put 0 [some (zr 25), some (zi p), some (zi i)] [] (wr c R) _
  refine zx_go (pc1 := 6) (l1 := [some (zr 25), some (zi p), some (zi i)]) (st1 := [zi p, zi i, zr 27]) (w1 := wr c R) g_X1_put 4 _ _ _ _ rfl ?_
  refine gz_iast g_X1_put rfl (n := cS c) rfl (by decide) (by refine ⟨?_, ?_, ?_, ?_, ?_⟩ <;> simp) (by have := hg.S; omega) (by omega) (by omega) ?_
  refine zx_go (pc1 := 13) (l1 := [some (zr 25), some (zi p), some (zi i)]) (st1 := [zi i, zi p, zr 28]) (w1 := wr c (zU R 27 i p)) g_X1_put 4 _ _ _ _ rfl ?_
  refine gz_iast g_X1_put rfl (n := cS c) rfl (by decide) (by refine ⟨?_, ?_, ?_, ?_, ?_⟩ <;> simp) (by have := hg.S; omega) (by omega) (by omega) ?_
  refine zx_vret g_X1_put rfl ?_
  exact gU_i rfl
end
section
/-! ===== contracts (2): rows of the class ===== -/
set_option maxHeartbeats 1000000 in
theorem s_Fclear {c : zC} {R : zI} (hg : Geo c) : MZ m_X1_clear [zr 25] (wr c R) (gU (fun R1 => R1 = zU (fl (fl R 26 (cS c) 1000000000) 28 (cS c) (-1)) 25 3 0) c) := by
  refine MZ.of g_X1_clear ?_
  show ZX m_X1_clear 0 [some (zr 25)] [] (wr c R) _
  refine zx_go (pc1 := 6) (l1 := [some (zr 25)]) (st1 := [zi 1000000000, zr 26]) (w1 := wr c R) g_X1_clear 3 _ _ _ _ rfl ?_
  refine gx_csU (As := [zr 26, zi 1000000000]) (rest := []) g_X1_clear rfl g_J7_fill_53178 rfl rfl (Nat.le_of_ble_eq_true rfl) (Nat.le_of_ble_eq_true rfl) (s_fill (A := 26) (n := cS c) rfl (by decide) (by decide) (by have := hg.S; omega)) (fun R6 hR6 => ?_)
  refine zx_go (pc1 := 14) (l1 := [some (zr 25)]) (st1 := [zi (-1), zr 28]) (w1 := wr c R6) g_X1_clear 3 _ _ _ _ rfl ?_
  refine gx_csU (As := [zr 28, zi (-1)]) (rest := []) g_X1_clear rfl g_J7_fill_53178 rfl rfl (Nat.le_of_ble_eq_true rfl) (Nat.le_of_ble_eq_true rfl) (s_fill (A := 28) (n := cS c) rfl (by decide) (by decide) (by have := hg.S; omega)) (fun R14 hR14 => ?_)
  refine zx_go (pc1 := 19) (l1 := [some (zr 25)]) (st1 := [zi 0, zr 25]) (w1 := wr c R14) g_X1_clear 2 _ _ _ _ rfl ?_
  refine gz_put 3 g_X1_clear rfl rfl rfl (by decide) rfl (by refine ⟨?_, ?_, ?_, ?_, ?_⟩ <;> simp) ?_
  refine zx_vret g_X1_clear rfl ?_
  refine gU_i ?_
  simp only [*]

set_option maxHeartbeats 1000000 in
theorem s_Sclear17 {c : zC} {R : zI} (hg : Geo c) : MZ m_X4_clear [zr 17] (wr c R) (gU (fun R1 => R1 = fl (fl (fl R 18 (cS c) 0) 19 (cS c) 0) 20 (cS c) 0) c) := by
  refine MZ.of g_X4_clear ?_
  show ZX m_X4_clear 0 [some (zr 17)] [] (wr c R) _
  refine zx_go (pc1 := 5) (l1 := [some (zr 17)]) (st1 := [zi 0, zr 18]) (w1 := wr c R) g_X4_clear 3 _ _ _ _ rfl ?_
  refine gx_csU (As := [zr 18, zi 0]) (rest := []) g_X4_clear rfl g_J7_fill_53178 rfl rfl (Nat.le_of_ble_eq_true rfl) (Nat.le_of_ble_eq_true rfl) (s_fill (A := 18) (n := cS c) rfl (by decide) (by decide) (by have := hg.S; omega)) (fun R5 hR5 => ?_)
  refine zx_go (pc1 := 13) (l1 := [some (zr 17)]) (st1 := [zi 0, zr 19]) (w1 := wr c R5) g_X4_clear 3 _ _ _ _ rfl ?_
  refine gx_csU (As := [zr 19, zi 0]) (rest := []) g_X4_clear rfl g_J7_fill_53178 rfl rfl (Nat.le_of_ble_eq_true rfl) (Nat.le_of_ble_eq_true rfl) (s_fill (A := 19) (n := cS c) rfl (by decide) (by decide) (by have := hg.S; omega)) (fun R13 hR13 => ?_)
  refine zx_go (pc1 := 21) (l1 := [some (zr 17)]) (st1 := [zi 0, zr 20]) (w1 := wr c R13) g_X4_clear 3 _ _ _ _ rfl ?_
  refine gx_csU (As := [zr 20, zi 0]) (rest := []) g_X4_clear rfl g_J7_fill_53178 rfl rfl (Nat.le_of_ble_eq_true rfl) (Nat.le_of_ble_eq_true rfl) (s_fill (A := 20) (n := cS c) rfl (by decide) (by decide) (by have := hg.S; omega)) (fun R21 hR21 => ?_)
  refine zx_vret g_X4_clear rfl ?_
  refine gU_i ?_
  simp only [*]

set_option maxHeartbeats 1000000 in
theorem s_Sclear21 {c : zC} {R : zI} (hg : Geo c) : MZ m_X4_clear [zr 21] (wr c R) (gU (fun R1 => R1 = fl (fl (fl R 22 (cS c) 0) 23 (cS c) 0) 24 (cS c) 0) c) := by
  refine MZ.of g_X4_clear ?_
  show ZX m_X4_clear 0 [some (zr 21)] [] (wr c R) _
  refine zx_go (pc1 := 5) (l1 := [some (zr 21)]) (st1 := [zi 0, zr 22]) (w1 := wr c R) g_X4_clear 3 _ _ _ _ rfl ?_
  refine gx_csU (As := [zr 22, zi 0]) (rest := []) g_X4_clear rfl g_J7_fill_53178 rfl rfl (Nat.le_of_ble_eq_true rfl) (Nat.le_of_ble_eq_true rfl) (s_fill (A := 22) (n := cS c) rfl (by decide) (by decide) (by have := hg.S; omega)) (fun R5 hR5 => ?_)
  refine zx_go (pc1 := 13) (l1 := [some (zr 21)]) (st1 := [zi 0, zr 23]) (w1 := wr c R5) g_X4_clear 3 _ _ _ _ rfl ?_
  refine gx_csU (As := [zr 23, zi 0]) (rest := []) g_X4_clear rfl g_J7_fill_53178 rfl rfl (Nat.le_of_ble_eq_true rfl) (Nat.le_of_ble_eq_true rfl) (s_fill (A := 23) (n := cS c) rfl (by decide) (by decide) (by have := hg.S; omega)) (fun R13 hR13 => ?_)
  refine zx_go (pc1 := 21) (l1 := [some (zr 21)]) (st1 := [zi 0, zr 24]) (w1 := wr c R13) g_X4_clear 3 _ _ _ _ rfl ?_
  refine gx_csU (As := [zr 24, zi 0]) (rest := []) g_X4_clear rfl g_J7_fill_53178 rfl rfl (Nat.le_of_ble_eq_true rfl) (Nat.le_of_ble_eq_true rfl) (s_fill (A := 24) (n := cS c) rfl (by decide) (by decide) (by have := hg.S; omega)) (fun R21 hR21 => ?_)
  refine zx_vret g_X4_clear rfl ?_
  refine gU_i ?_
  simp only [*]

set_option maxHeartbeats 1000000 in
theorem s_addNet {c : zC} {R : zI}  : MZ m_X0_addNet [zr 10] (wr c R) (gR (fun v R1 => v = R 10 0 ∧ R1 = zU R 10 0 (R 10 0 + 1)) c) := by
  refine MZ.of g_X0_addNet ?_
  show ZX m_X0_addNet 0 [some (zr 10)] [] (wr c R) _
  refine zx_go (pc1 := 7) (l1 := [some (zr 10)]) (st1 := [zi ((R 10 0) + 1), zr 10]) (w1 := wr c R) g_X0_addNet 5 _ _ _ _ rfl ?_
  refine gz_put 0 g_X0_addNet rfl rfl rfl (by decide) rfl (by refine ⟨?_, ?_, ?_, ?_, ?_⟩ <;> simp) ?_
  refine zx_go (pc1 := 16) (l1 := [some (zr 10)]) (st1 := [zi (((zU R 10 0 ((R 10 0) + 1)) 10 0) - 1)]) (w1 := wr c (zU R 10 0 ((R 10 0) + 1))) g_X0_addNet 4 _ _ _ _ rfl ?_
  refine zx_iret g_X0_addNet rfl (.inl rfl) ?_
  refine gR_i ⟨?_, rfl⟩
  rw [zU_same]
  omega

set_option maxHeartbeats 1000000 in
theorem s_addPin {c : zC} {R : zI} {n : Int} (h0 : 0 ≤ R 10 2) (h1 : R 10 2 < 40) (h2 : 0 ≤ n) (h3 : n < 16) : MZ m_X0_addPin [zr 10, zi n] (wr c R) (gR (fun v R1 => v = R 10 2 ∧ R1 = zU (zU (zU R 11 (R 10 2) n) 12 n (R 12 n + 1)) 10 2 (R 10 2 + 1)) c) := by
  refine MZ.of g_X0_addPin ?_
  show ZX m_X0_addPin 0 [some (zr 10), some (zi n)] [] (wr c R) _
  refine zx_go (pc1 := 9) (l1 := [some (zr 10), some (zi n)]) (st1 := [zi n, zi (R 10 2), zr 11]) (w1 := wr c R) g_X0_addPin 5 _ _ _ _ rfl ?_
  refine gz_iast g_X0_addPin rfl (n := 40) rfl (by decide) (by refine ⟨?_, ?_, ?_, ?_, ?_⟩ <;> simp) (by decide) (by omega) (by omega) ?_
  refine zx_go (pc1 := 16) (l1 := [some (zr 10), some (zi n)]) (st1 := [zi n, zr 12, zi n, zr 12]) (w1 := wr c (zU R 11 (R 10 2) n)) g_X0_addPin 4 _ _ _ _ rfl ?_
  refine gz_iald g_X0_addPin rfl (n := 16) rfl (by decide) rfl (by decide) (by omega) (by omega) ?_
  refine zx_go (pc1 := 19) (l1 := [some (zr 10), some (zi n)]) (st1 := [zi (((zU R 11 (R 10 2) n) 12 n) + 1), zi n, zr 12]) (w1 := wr c (zU R 11 (R 10 2) n)) g_X0_addPin 2 _ _ _ _ rfl ?_
  refine gz_iast g_X0_addPin rfl (n := 16) rfl (by decide) (by refine ⟨?_, ?_, ?_, ?_, ?_⟩ <;> simp) (by decide) (by omega) (by omega) ?_
  refine zx_go (pc1 := 27) (l1 := [some (zr 10), some (zi n)]) (st1 := [zi (((zU (zU R 11 (R 10 2) n) 12 n (((zU R 11 (R 10 2) n) 12 n) + 1)) 10 2) + 1), zr 10]) (w1 := wr c (zU (zU R 11 (R 10 2) n) 12 n (((zU R 11 (R 10 2) n) 12 n) + 1))) g_X0_addPin 5 _ _ _ _ rfl ?_
  refine gz_put 2 g_X0_addPin rfl rfl rfl (by decide) rfl (by refine ⟨?_, ?_, ?_, ?_, ?_⟩ <;> simp) ?_
  refine zx_go (pc1 := 36) (l1 := [some (zr 10), some (zi n)]) (st1 := [zi (((zU (zU (zU R 11 (R 10 2) n) 12 n (((zU R 11 (R 10 2) n) 12 n) + 1)) 10 2 (((zU (zU R 11 (R 10 2) n) 12 n (((zU R 11 (R 10 2) n) 12 n) + 1)) 10 2) + 1)) 10 2) - 1)]) (w1 := wr c (zU (zU (zU R 11 (R 10 2) n) 12 n (((zU R 11 (R 10 2) n) 12 n) + 1)) 10 2 (((zU (zU R 11 (R 10 2) n) 12 n (((zU R 11 (R 10 2) n) 12 n) + 1)) 10 2) + 1))) g_X0_addPin 4 _ _ _ _ rfl ?_
  refine zx_iret g_X0_addPin rfl (.inl rfl) ?_
  refine gR_i ⟨?_, ?_⟩
  · simp [zU]
  · simp [zU]

set_option maxHeartbeats 1000000 in
theorem s_addAccess {c : zC} {R : zI} {p q : Int} (h0 : 0 ≤ p) (h1 : p < 40) (h2 : 0 ≤ R 13 p) (h3 : R 13 p < 4) : MZ m_X0_addAccess [zr 10, zi p, zi q] (wr c R) (gU (fun R1 => R1 = zU (zU R 14 (p * 4 + R 13 p) q) 13 p (R 13 p + 1)) c) := by
  refine MZ.of g_X0_addAccess ?_
  show ZX m_X0_addAccess 0 [some (zr 10), some (zi p), some (zi q)] [] (wr c R) _
  refine zx_go (pc1 := 12) (l1 := [some (zr 10), some (zi p), some (zi q)]) (st1 := [zi p, zr 13, zi (p * 4), zr 14]) (w1 := wr c R) g_X0_addAccess 8 _ _ _ _ rfl ?_
  refine gz_iald g_X0_addAccess rfl (n := 40) rfl (by decide) rfl (by decide) (by omega) (by omega) ?_
  refine zx_go (pc1 := 15) (l1 := [some (zr 10), some (zi p), some (zi q)]) (st1 := [zi q, zi ((p * 4) + (R 13 p)), zr 14]) (w1 := wr c R) g_X0_addAccess 2 _ _ _ _ rfl ?_
  refine gz_iast g_X0_addAccess rfl (n := 160) rfl (by decide) (by refine ⟨?_, ?_, ?_, ?_, ?_⟩ <;> simp) (by decide) (by omega) (by omega) ?_
  refine zx_go (pc1 := 22) (l1 := [some (zr 10), some (zi p), some (zi q)]) (st1 := [zi p, zr 13, zi p, zr 13]) (w1 := wr c (zU R 14 ((p * 4) + (R 13 p)) q)) g_X0_addAccess 4 _ _ _ _ rfl ?_
  refine gz_iald g_X0_addAccess rfl (n := 40) rfl (by decide) rfl (by decide) (by omega) (by omega) ?_
  refine zx_go (pc1 := 25) (l1 := [some (zr 10), some (zi p), some (zi q)]) (st1 := [zi (((zU R 14 ((p * 4) + (R 13 p)) q) 13 p) + 1), zi p, zr 13]) (w1 := wr c (zU R 14 ((p * 4) + (R 13 p)) q)) g_X0_addAccess 2 _ _ _ _ rfl ?_
  refine gz_iast g_X0_addAccess rfl (n := 40) rfl (by decide) (by refine ⟨?_, ?_, ?_, ?_, ?_⟩ <;> simp) (by decide) (by omega) (by omega) ?_
  refine zx_vret g_X0_addAccess rfl ?_
  refine gU_i ?_
  simp [zU]

set_option maxHeartbeats 1000000 in
theorem s_hasAccess {c : zC} {R : zI} {p q : Int} (h0 : 0 ≤ p) (h1 : p < 40) (h2 : 0 ≤ R 13 p) (h3 : R 13 p ≤ 4) (hq : inR q) (hr : ∀ j, 0 ≤ j → j < R 13 p → inR (R 14 (p * 4 + j))) : MZ m_X0_hasAccess [zr 10, zi p, zi q] (wr c R) (qF (zi (bI (∃ k, 0 ≤ k ∧ k < R 13 p ∧ R 14 (p * 4 + k) = q))) (wr c R)) := by
  refine MZ.of g_X0_hasAccess ?_
  show ZX m_X0_hasAccess 0 [some (zr 10), some (zi p), some (zi q), none] [] (wr c R) _
  refine zx_go (pc1 := 2) (l1 := [some (zr 10), some (zi p), some (zi q), some (zi 0)]) (st1 := []) (w1 := wr c R) g_X0_hasAccess 2 _ _ _ _ rfl ?_
  have lp2 : ∀ (it : Nat) (k : Int), (it : Int) = R 13 p - k → (0 ≤ k ∧ k ≤ R 13 p ∧ ∀ j, 0 ≤ j → j < k → R 14 (p * 4 + j) ≠ q) → ZX m_X0_hasAccess 2 [some (zr 10), some (zi p), some (zi q), some (zi k)] [] (wr c R) (qF (zi (bI (∃ k, 0 ≤ k ∧ k < R 13 p ∧ R 14 (p * 4 + k) = q))) (wr c R)) := by
    refine fun it => Nat.strongRecOn it (fun it ih2 => ?_)
    intro k hn2 hi2
    obtain ⟨k0, k1, k2⟩ := hi2
    refine zx_go (pc1 := 8) (l1 := [some (zr 10), some (zi p), some (zi q), some (zi k)]) (st1 := [zi p, zr 13, zi k]) (w1 := wr c R) g_X0_hasAccess 4 _ _ _ _ rfl ?_
    refine gz_iald g_X0_hasAccess rfl (n := 40) rfl (by decide) rfl (by decide) (by omega) (by omega) ?_
    refine zx_cmp g_X0_hasAccess rfl (by omega) (by omega) (fun (h9 : (R 13 p) ≤ k) => ?_) (fun (h9 : ¬ ((R 13 p) ≤ k)) => ?_)
    · refine zx_go (pc1 := 31) (l1 := [some (zr 10), some (zi p), some (zi q), some (zi k)]) (st1 := [zi 0]) (w1 := wr c R) g_X0_hasAccess 1 _ _ _ _ rfl ?_
      refine zx_iret g_X0_hasAccess rfl (.inr (.inl rfl)) ?_
      exact qF_f (fun ⟨j, j0, j1, j2⟩ => k2 j j0 (by omega) j2)
    · refine zx_go (pc1 := 15) (l1 := [some (zr 10), some (zi p), some (zi q), some (zi k)]) (st1 := [zi k, zi p, zr 10]) (w1 := wr c R) g_X0_hasAccess 3 _ _ _ _ rfl ?_
      refine zx_cvF (As := [zi p, zi k]) (rest := []) g_X0_hasAccess rfl g_X0_accessPlace rfl rfl (Nat.le_of_ble_eq_true rfl) (Nat.le_of_ble_eq_true rfl) rfl (by decide) (s_accessPlace (by omega) (by omega) (by omega) (by omega)) ?_
      refine zx_go (pc1 := 19) (l1 := [some (zr 10), some (zi p), some (zi q), some (zi k)]) (st1 := [zi q, zi (R 14 (p * 4 + k))]) (w1 := wr c R) g_X0_hasAccess 1 _ _ _ _ rfl ?_
      have hr1 := hr k (by omega) (by omega)
      refine zx_cmp g_X0_hasAccess rfl (by omega) (by omega) (fun (h19 : (R 14 (p * 4 + k)) ≠ q) => ?_) (fun (h19 : ¬ ((R 14 (p * 4 + k)) ≠ q)) => ?_)
      · refine zx_go (pc1 := 2) (l1 := [some (zr 10), some (zi p), some (zi q), some (zi (k + 1))]) (st1 := []) (w1 := wr c R) g_X0_hasAccess 2 _ _ _ _ rfl ?_
        refine ih2 (Int.toNat (R 13 p - (k + 1))) (by omega) (k + 1) (by omega) ?_
        refine ⟨by omega, by omega, fun j j0 j1 => ?_⟩
        by_cases e : j = k
        · subst e; exact h19
        · exact k2 j j0 (by omega)
      · refine zx_go (pc1 := 23) (l1 := [some (zr 10), some (zi p), some (zi q), some (zi k)]) (st1 := [zi 1]) (w1 := wr c R) g_X0_hasAccess 1 _ _ _ _ rfl ?_
        refine zx_iret g_X0_hasAccess rfl (.inr (.inr rfl)) ?_
        exact qF_t ⟨k, by omega, by omega, by omega⟩
  refine lp2 (Int.toNat (R 13 p - 0)) 0 (by omega) ?_
  exact ⟨by omega, by omega, fun j _ _ => by omega⟩

set_option maxHeartbeats 1000000 in
theorem s_close {c : zC} {R : zI} (hg : Geo c) {p : Int} (h0 : 0 ≤ p) (h1 : p < (cS c : Int)) (hb : R 9 p = 0 ∨ R 9 p = 1) : MZ m_X2_close [zr 2, zi p] (wr c R) (gR (fun v R1 => v = bI (R 9 p = 0) ∧ R1 = pIR (R 9 p = 0) (zU (zU R 9 p 1) 2 12 (R 2 12 + 1)) R) c) := by
  refine MZ.of g_X2_close ?_
  show ZX m_X2_close 0 [some (zr 2), some (zi p)] [] (wr c R) _
  refine zx_go (pc1 := 5) (l1 := [some (zr 2), some (zi p)]) (st1 := [zi p, zr 9]) (w1 := wr c R) g_X2_close 3 _ _ _ _ rfl ?_
  refine gz_bald g_X2_close rfl (n := cS c) rfl (by decide) rfl (by have := hg.S; omega) (by omega) (by omega) ?_
  refine zx_if g_X2_close rfl (by omega) (fun (h6 : (R 9 p) = 0) => ?_) (fun (h6 : ¬ (R 9 p) = 0) => ?_)
  · refine zx_go (pc1 := 17) (l1 := [some (zr 2), some (zi p)]) (st1 := [zi 1, zi p, zr 9]) (w1 := wr c R) g_X2_close 4 _ _ _ _ rfl ?_
    refine gz_bast g_X2_close rfl (n := cS c) rfl (by decide) (by refine ⟨?_, ?_, ?_, ?_, ?_⟩ <;> simp) (by have := hg.S; omega) (by omega) (by omega) (.inr rfl) ?_
    refine zx_go (pc1 := 25) (l1 := [some (zr 2), some (zi p)]) (st1 := [zi (((zU R 9 p 1) 2 12) + 1), zr 2]) (w1 := wr c (zU R 9 p 1)) g_X2_close 5 _ _ _ _ rfl ?_
    refine gz_put 12 g_X2_close rfl rfl rfl (by decide) rfl (by refine ⟨?_, ?_, ?_, ?_, ?_⟩ <;> simp) ?_
    refine zx_go (pc1 := 29) (l1 := [some (zr 2), some (zi p)]) (st1 := [zi 1]) (w1 := wr c (zU (zU R 9 p 1) 2 12 (((zU R 9 p 1) 2 12) + 1))) g_X2_close 1 _ _ _ _ rfl ?_
    refine zx_iret g_X2_close rfl (.inr (.inr rfl)) ?_
    refine gR_i ⟨(bI_t h6).symm, ?_⟩
    rw [pIR_t h6, zU_cell' (by decide)]
  · refine zx_go (pc1 := 10) (l1 := [some (zr 2), some (zi p)]) (st1 := [zi 0]) (w1 := wr c R) g_X2_close 1 _ _ _ _ rfl ?_
    refine zx_iret g_X2_close rfl (.inr (.inl rfl)) ?_
    exact gR_i ⟨(bI_f h6).symm, (pIR_f h6).symm⟩

noncomputable def clv (n f : Int → Int) (net p sh : Int) : Int := zand (pI (zand sh (zshl 1 net) ≠ 0) (f p) (zor (n p) (zand (f p) sh))) (zxor (zshl 1 net) (-1))
theorem clv_R (n f : Int → Int) (net p sh : Int) : inR (clv n f net p sh) := zand_R _ _
/-- the places near q that P holds of are marked -/
noncomputable def mkd (c : zC) (R : zI) (A : Nat) (net q d : Int) (P : Int → Prop) : zI := ch R (fun b j => b = A ∧ 0 ≤ j ∧ j < (cS c : Int) ∧ nr c j q d ∧ P j) (fun b j => zor (R b j) (zshl 1 net))

set_option maxHeartbeats 1000000 in
theorem s_clashing17 {c : zC} {R : zI} (hg : Geo c) {n p sh : Int} (h0 : 0 ≤ p) (h1 : p < (cS c : Int)) : MZ m_X4_clashing [zr 17, zi n, zi p, zi sh] (wr c R) (qF (zi (clv (R 19) (R 20) n p sh)) (wr c R)) := by
  refine MZ.of g_X4_clashing ?_
  show ZX m_X4_clashing 0 [some (zr 17), some (zi n), some (zi p), some (zi sh), none, none] [] (wr c R) _
  refine zx_go (pc1 := 3) (l1 := [some (zr 17), some (zi n), some (zi p), some (zi sh), none, none]) (st1 := [zi (zshl 1 n)]) (w1 := wr c R) g_X4_clashing 3 _ _ _ _ rfl ?_
  refine zx_go (pc1 := 9) (l1 := [some (zr 17), some (zi n), some (zi p), some (zi sh), some (zi (zshl 1 n)), none]) (st1 := [zi (zand sh (zshl 1 n))]) (w1 := wr c R) g_X4_clashing 4 _ _ _ _ rfl ?_
  refine zx_if g_X4_clashing rfl (zand_R _ _) (fun (h9 : (zand sh (zshl 1 n)) = 0) => ?_) (fun (h9 : ¬ (zand sh (zshl 1 n)) = 0) => ?_)
  · refine zx_go (pc1 := 26) (l1 := [some (zr 17), some (zi n), some (zi p), some (zi sh), some (zi (zshl 1 n)), none]) (st1 := [zi p, zr 19]) (w1 := wr c R) g_X4_clashing 3 _ _ _ _ rfl ?_
    refine gz_iald g_X4_clashing rfl (n := cS c) rfl (by decide) rfl (by have := hg.S; omega) (by omega) (by omega) ?_
    refine zx_go (pc1 := 32) (l1 := [some (zr 17), some (zi n), some (zi p), some (zi sh), some (zi (zshl 1 n)), none]) (st1 := [zi p, zr 20, zi (R 19 p)]) (w1 := wr c R) g_X4_clashing 3 _ _ _ _ rfl ?_
    refine gz_iald g_X4_clashing rfl (n := cS c) rfl (by decide) rfl (by have := hg.S; omega) (by omega) (by omega) ?_
    refine zx_go (pc1 := 35) (l1 := [some (zr 17), some (zi n), some (zi p), some (zi sh), some (zi (zshl 1 n)), none]) (st1 := [zi (zand (R 20 p) sh), zi (R 19 p)]) (w1 := wr c R) g_X4_clashing 2 _ _ _ _ rfl ?_
    refine zx_go (pc1 := 36) (l1 := [some (zr 17), some (zi n), some (zi p), some (zi sh), some (zi (zshl 1 n)), none]) (st1 := [zi (zor (R 19 p) (zand (R 20 p) sh))]) (w1 := wr c R) g_X4_clashing 1 _ _ _ _ rfl ?_
    refine zx_go (pc1 := 44) (l1 := [some (zr 17), some (zi n), some (zi p), some (zi sh), some (zi (zshl 1 n)), some (zi (zor (R 19 p) (zand (R 20 p) sh)))]) (st1 := [zi (zxor (zshl 1 n) (-1)), zi (zor (R 19 p) (zand (R 20 p) sh))]) (w1 := wr c R) g_X4_clashing 5 _ _ _ _ rfl ?_
    refine zx_go (pc1 := 45) (l1 := [some (zr 17), some (zi n), some (zi p), some (zi sh), some (zi (zshl 1 n)), some (zi (zor (R 19 p) (zand (R 20 p) sh)))]) (st1 := [zi (zand (zor (R 19 p) (zand (R 20 p) sh)) (zxor (zshl 1 n) (-1)))]) (w1 := wr c R) g_X4_clashing 1 _ _ _ _ rfl ?_
    refine zx_iret g_X4_clashing rfl (.inl rfl) ?_
    refine qF_i ?_
    unfold clv
    first | (rw [pI_t h9]; done) | (rw [pI_f h9]; done) | (rw [pI_f (fun q => q h9)]; done)
  · refine zx_go (pc1 := 17) (l1 := [some (zr 17), some (zi n), some (zi p), some (zi sh), some (zi (zshl 1 n)), none]) (st1 := [zi p, zr 20]) (w1 := wr c R) g_X4_clashing 3 _ _ _ _ rfl ?_
    refine gz_iald g_X4_clashing rfl (n := cS c) rfl (by decide) rfl (by have := hg.S; omega) (by omega) (by omega) ?_
    refine zx_go (pc1 := 44) (l1 := [some (zr 17), some (zi n), some (zi p), some (zi sh), some (zi (zshl 1 n)), some (zi (R 20 p))]) (st1 := [zi (zxor (zshl 1 n) (-1)), zi (R 20 p)]) (w1 := wr c R) g_X4_clashing 6 _ _ _ _ rfl ?_
    refine zx_go (pc1 := 45) (l1 := [some (zr 17), some (zi n), some (zi p), some (zi sh), some (zi (zshl 1 n)), some (zi (R 20 p))]) (st1 := [zi (zand (R 20 p) (zxor (zshl 1 n) (-1)))]) (w1 := wr c R) g_X4_clashing 1 _ _ _ _ rfl ?_
    refine zx_iret g_X4_clashing rfl (.inl rfl) ?_
    refine qF_i ?_
    unfold clv
    first | (rw [pI_t h9]; done) | (rw [pI_f h9]; done) | (rw [pI_f (fun q => q h9)]; done)

set_option maxHeartbeats 1000000 in
theorem s_mark19 {c : zC} {R : zI} (hg : Geo c) {n q d : Int} (h0 : 0 ≤ q) (h1 : q < (cS c : Int)) (d0 : 0 ≤ d) (d1 : d ≤ 3) : MZ m_X4_mark [zr 17, zr 19, zi n, zi q, zi d] (wr c R) (gU (fun R1 => R1 = mkd c R 19 n q d (fun _ => True)) c) := by
  refine MZ.of g_X4_mark ?_
  show ZX m_X4_mark 0 [some (zr 17), some (zr 19), some (zi n), some (zi q), some (zi d), none, none, none, none, none, none, none] [] (wr c R) _
  have gq := place_geo hg h0 h1
  have g2 := hg
  unfold Geo at g2
  have g3 := hg.S
  refine zx_go (pc1 := 8) (l1 := [some (zr 17), some (zr 19), some (zi n), some (zi q), some (zi d), none, none, none, none, none, none, none]) (st1 := [zi q, zr 6]) (w1 := wr c R) g_X4_mark 4 _ _ _ _ rfl ?_
  refine gz_ld6 g_X4_mark rfl hg (by omega) (by omega) ?_
  refine zx_go (pc1 := 20) (l1 := [some (zr 17), some (zr 19), some (zi n), some (zi q), some (zi d), some (zi (lay c q)), none, none, none, none, none, none]) (st1 := [zi q, zr 7, zi 0]) (w1 := wr c R) g_X4_mark 6 _ _ _ _ rfl ?_
  refine gz_ld7 g_X4_mark rfl hg (by omega) (by omega) ?_
  refine zx_go (pc1 := 24) (l1 := [some (zr 17), some (zr 19), some (zi n), some (zi q), some (zi d), some (zi (lay c q)), none, none, none, none, none, none]) (st1 := [zi ((xo c q) - d), zi 0]) (w1 := wr c R) g_X4_mark 2 _ _ _ _ rfl ?_
  refine zx_imax g_X4_mark rfl (Nat.le_of_ble_eq_true rfl) (by decide) (by omega) ?_
  refine zx_go (pc1 := 46) (l1 := [some (zr 17), some (zr 19), some (zi n), some (zi q), some (zi d), some (zi (lay c q)), some (zi (max 0 ((xo c q) - d))), none, none, none, none, none]) (st1 := [zi q, zr 7, zi ((cW c) - 1)]) (w1 := wr c R) g_X4_mark 10 _ _ _ _ rfl ?_
  refine gz_ld7 g_X4_mark rfl hg (by omega) (by omega) ?_
  refine zx_go (pc1 := 50) (l1 := [some (zr 17), some (zr 19), some (zi n), some (zi q), some (zi d), some (zi (lay c q)), some (zi (max 0 ((xo c q) - d))), none, none, none, none, none]) (st1 := [zi ((xo c q) + d), zi ((cW c) - 1)]) (w1 := wr c R) g_X4_mark 2 _ _ _ _ rfl ?_
  refine zx_imin g_X4_mark rfl (Nat.le_of_ble_eq_true rfl) (by omega) (by omega) ?_
  refine zx_go (pc1 := 64) (l1 := [some (zr 17), some (zr 19), some (zi n), some (zi q), some (zi d), some (zi (lay c q)), some (zi (max 0 ((xo c q) - d))), some (zi (min ((cW c) - 1) ((xo c q) + d))), none, none, none, none]) (st1 := [zi q, zr 8, zi 0]) (w1 := wr c R) g_X4_mark 6 _ _ _ _ rfl ?_
  refine gz_ld8 g_X4_mark rfl hg (by omega) (by omega) ?_
  refine zx_go (pc1 := 68) (l1 := [some (zr 17), some (zr 19), some (zi n), some (zi q), some (zi d), some (zi (lay c q)), some (zi (max 0 ((xo c q) - d))), some (zi (min ((cW c) - 1) ((xo c q) + d))), none, none, none, none]) (st1 := [zi ((yo c q) - d), zi 0]) (w1 := wr c R) g_X4_mark 2 _ _ _ _ rfl ?_
  refine zx_imax g_X4_mark rfl (Nat.le_of_ble_eq_true rfl) (by decide) (by omega) ?_
  refine zx_go (pc1 := 90) (l1 := [some (zr 17), some (zr 19), some (zi n), some (zi q), some (zi d), some (zi (lay c q)), some (zi (max 0 ((xo c q) - d))), some (zi (min ((cW c) - 1) ((xo c q) + d))), some (zi (max 0 ((yo c q) - d))), none, none, none]) (st1 := [zi q, zr 8, zi ((cH c) - 1)]) (w1 := wr c R) g_X4_mark 10 _ _ _ _ rfl ?_
  refine gz_ld8 g_X4_mark rfl hg (by omega) (by omega) ?_
  refine zx_go (pc1 := 94) (l1 := [some (zr 17), some (zr 19), some (zi n), some (zi q), some (zi d), some (zi (lay c q)), some (zi (max 0 ((xo c q) - d))), some (zi (min ((cW c) - 1) ((xo c q) + d))), some (zi (max 0 ((yo c q) - d))), none, none, none]) (st1 := [zi ((yo c q) + d), zi ((cH c) - 1)]) (w1 := wr c R) g_X4_mark 2 _ _ _ _ rfl ?_
  refine zx_imin g_X4_mark rfl (Nat.le_of_ble_eq_true rfl) (by omega) (by omega) ?_
  refine zx_go (pc1 := 103) (l1 := [some (zr 17), some (zr 19), some (zi n), some (zi q), some (zi d), some (zi (lay c q)), some (zi (max 0 ((xo c q) - d))), some (zi (min ((cW c) - 1) ((xo c q) + d))), some (zi (max 0 ((yo c q) - d))), some (zi (min ((cH c) - 1) ((yo c q) + d))), some (zi (max 0 ((yo c q) - d))), none]) (st1 := []) (w1 := wr c R) g_X4_mark 3 _ _ _ _ rfl ?_
  have lp103 : ∀ (it : Nat) (y : Int) (R1 : zI), (it : Int) = min (cH c - 1) (yo c q + d) + 1 - y → (max 0 (yo c q - d) ≤ y ∧ y ≤ min (cH c - 1) (yo c q + d) + 1 ∧ R1 = mkd c R 19 n q d (fun j => yo c j < y)) → ZX m_X4_mark 103 [some (zr 17), some (zr 19), some (zi n), some (zi q), some (zi d), some (zi (lay c q)), some (zi (max 0 ((xo c q) - d))), some (zi (min ((cW c) - 1) ((xo c q) + d))), some (zi (max 0 ((yo c q) - d))), some (zi (min ((cH c) - 1) ((yo c q) + d))), some (zi y), none] [] (wr c R1) (gU (fun R1 => R1 = mkd c R 19 n q d (fun _ => True)) c) := by
    refine fun it => Nat.strongRecOn it (fun it ih103 => ?_)
    intro y R1 hn103 hi103
    obtain ⟨y0, y1, y2⟩ := hi103
    refine zx_go (pc1 := 107) (l1 := [some (zr 17), some (zr 19), some (zi n), some (zi q), some (zi d), some (zi (lay c q)), some (zi (max 0 ((xo c q) - d))), some (zi (min ((cW c) - 1) ((xo c q) + d))), some (zi (max 0 ((yo c q) - d))), some (zi (min ((cH c) - 1) ((yo c q) + d))), some (zi y), none]) (st1 := [zi (min ((cH c) - 1) ((yo c q) + d)), zi y]) (w1 := wr c R1) g_X4_mark 2 _ _ _ _ rfl ?_
    refine zx_cmp g_X4_mark rfl (by omega) (by omega) (fun (h107 : (min ((cH c) - 1) ((yo c q) + d)) < y) => ?_) (fun (h107 : ¬ ((min ((cH c) - 1) ((yo c q) + d)) < y)) => ?_)
    · refine zx_vret g_X4_mark rfl ?_
      refine gU_i ?_
      rw [y2]
      unfold mkd
      refine ch_congr fun b j => ?_
      constructor
      · rintro ⟨z0, z1, z2, z3, z4⟩
        exact ⟨z0, z1, z2, z3, trivial⟩
      · rintro ⟨z0, z1, z2, z3, z4⟩
        have gj := place_geo hg z1 z2
        refine ⟨z0, z1, z2, z3, ?_⟩
        unfold nr at z3
        omega
    · refine zx_go (pc1 := 114) (l1 := [some (zr 17), some (zr 19), some (zi n), some (zi q), some (zi d), some (zi (lay c q)), some (zi (max 0 ((xo c q) - d))), some (zi (min ((cW c) - 1) ((xo c q) + d))), some (zi (max 0 ((yo c q) - d))), some (zi (min ((cH c) - 1) ((yo c q) + d))), some (zi y), some (zi (max 0 ((xo c q) - d)))]) (st1 := []) (w1 := wr c R1) g_X4_mark 2 _ _ _ _ rfl ?_
      have lp114 : ∀ (it : Nat) (x : Int) (R2 : zI), (it : Int) = min (cW c - 1) (xo c q + d) + 1 - x → (max 0 (xo c q - d) ≤ x ∧ x ≤ min (cW c - 1) (xo c q + d) + 1 ∧ R2 = mkd c R 19 n q d (fun j => yo c j < y ∨ (yo c j = y ∧ xo c j < x))) → ZX m_X4_mark 114 [some (zr 17), some (zr 19), some (zi n), some (zi q), some (zi d), some (zi (lay c q)), some (zi (max 0 ((xo c q) - d))), some (zi (min ((cW c) - 1) ((xo c q) + d))), some (zi (max 0 ((yo c q) - d))), some (zi (min ((cH c) - 1) ((yo c q) + d))), some (zi y), some (zi x)] [] (wr c R2) (gU (fun R1 => R1 = mkd c R 19 n q d (fun _ => True)) c) := by
        refine fun it => Nat.strongRecOn it (fun it ih114 => ?_)
        intro x R2 hn114 hi114
        obtain ⟨x0, x1, x2⟩ := hi114
        refine zx_go (pc1 := 118) (l1 := [some (zr 17), some (zr 19), some (zi n), some (zi q), some (zi d), some (zi (lay c q)), some (zi (max 0 ((xo c q) - d))), some (zi (min ((cW c) - 1) ((xo c q) + d))), some (zi (max 0 ((yo c q) - d))), some (zi (min ((cH c) - 1) ((yo c q) + d))), some (zi y), some (zi x)]) (st1 := [zi (min ((cW c) - 1) ((xo c q) + d)), zi x]) (w1 := wr c R2) g_X4_mark 2 _ _ _ _ rfl ?_
        refine zx_cmp g_X4_mark rfl (by omega) (by omega) (fun (h118 : (min ((cW c) - 1) ((xo c q) + d)) < x) => ?_) (fun (h118 : ¬ ((min ((cW c) - 1) ((xo c q) + d)) < x)) => ?_)
        · refine zx_go (pc1 := 103) (l1 := [some (zr 17), some (zr 19), some (zi n), some (zi q), some (zi d), some (zi (lay c q)), some (zi (max 0 ((xo c q) - d))), some (zi (min ((cW c) - 1) ((xo c q) + d))), some (zi (max 0 ((yo c q) - d))), some (zi (min ((cH c) - 1) ((yo c q) + d))), some (zi (y + 1)), some (zi x)]) (st1 := []) (w1 := wr c R2) g_X4_mark 2 _ _ _ _ rfl ?_
          refine ih103 (Int.toNat (min (cH c - 1) (yo c q + d) + 1 - (y + 1))) (by omega) (y + 1) R2 (by omega) ?_
          refine ⟨by omega, by omega, ?_⟩
          rw [x2]
          unfold mkd
          refine ch_congr fun b j => ?_
          constructor
          · rintro ⟨z0, z1, z2, z3, z4⟩
            exact ⟨z0, z1, z2, z3, by omega⟩
          · rintro ⟨z0, z1, z2, z3, z4⟩
            have gj := place_geo hg z1 z2
            refine ⟨z0, z1, z2, z3, ?_⟩
            unfold nr at z3
            omega
        · have gp := pl_geo hg (z := lay c q) (x := x) (y := y) (by omega) (by omega) (by omega) (by omega) (by omega) (by omega)
          refine zx_go (pc1 := 132) (l1 := [some (zr 17), some (zr 19), some (zi n), some (zi q), some (zi d), some (zi (lay c q)), some (zi (max 0 ((xo c q) - d))), some (zi (min ((cW c) - 1) ((xo c q) + d))), some (zi (max 0 ((yo c q) - d))), some (zi (min ((cH c) - 1) ((yo c q) + d))), some (zi y), some (zi x)]) (st1 := [zi y, zi x, zi (lay c q), zr 2, zr 19]) (w1 := wr c R2) g_X4_mark 6 _ _ _ _ rfl ?_
          refine zx_cvF (As := [zi (lay c q), zi x, zi y]) (rest := [zr 19]) g_X4_mark rfl g_X2_placeAt rfl rfl (Nat.le_of_ble_eq_true rfl) (Nat.le_of_ble_eq_true rfl) rfl (by decide) (s_placeAt (lay c q) x y) ?_
          refine zx_go (pc1 := 136) (l1 := [some (zr 17), some (zr 19), some (zi n), some (zi q), some (zi d), some (zi (lay c q)), some (zi (max 0 ((xo c q) - d))), some (zi (min ((cW c) - 1) ((xo c q) + d))), some (zi (max 0 ((yo c q) - d))), some (zi (min ((cH c) - 1) ((yo c q) + d))), some (zi y), some (zi x)]) (st1 := [zi (pl c (lay c q) x y), zr 19, zi (pl c (lay c q) x y), zr 19]) (w1 := wr c R2) g_X4_mark 1 _ _ _ _ rfl ?_
          refine gz_iald g_X4_mark rfl (n := cS c) rfl (by decide) rfl (by have := hg.S; omega) (by omega) (by omega) ?_
          refine zx_go (pc1 := 140) (l1 := [some (zr 17), some (zr 19), some (zi n), some (zi q), some (zi d), some (zi (lay c q)), some (zi (max 0 ((xo c q) - d))), some (zi (min ((cW c) - 1) ((xo c q) + d))), some (zi (max 0 ((yo c q) - d))), some (zi (min ((cH c) - 1) ((yo c q) + d))), some (zi y), some (zi x)]) (st1 := [zi (zshl 1 n), zi (R2 19 (pl c (lay c q) x y)), zi (pl c (lay c q) x y), zr 19]) (w1 := wr c R2) g_X4_mark 3 _ _ _ _ rfl ?_
          refine zx_go (pc1 := 141) (l1 := [some (zr 17), some (zr 19), some (zi n), some (zi q), some (zi d), some (zi (lay c q)), some (zi (max 0 ((xo c q) - d))), some (zi (min ((cW c) - 1) ((xo c q) + d))), some (zi (max 0 ((yo c q) - d))), some (zi (min ((cH c) - 1) ((yo c q) + d))), some (zi y), some (zi x)]) (st1 := [zi (zor (R2 19 (pl c (lay c q) x y)) (zshl 1 n)), zi (pl c (lay c q) x y), zr 19]) (w1 := wr c R2) g_X4_mark 1 _ _ _ _ rfl ?_
          refine gz_iast g_X4_mark rfl (n := cS c) rfl (by decide) (by refine ⟨?_, ?_, ?_, ?_, ?_⟩ <;> simp) (by have := hg.S; omega) (by omega) (by omega) ?_
          refine zx_go (pc1 := 114) (l1 := [some (zr 17), some (zr 19), some (zi n), some (zi q), some (zi d), some (zi (lay c q)), some (zi (max 0 ((xo c q) - d))), some (zi (min ((cW c) - 1) ((xo c q) + d))), some (zi (max 0 ((yo c q) - d))), some (zi (min ((cH c) - 1) ((yo c q) + d))), some (zi y), some (zi (x + 1))]) (st1 := []) (w1 := wr c (zU R2 19 (pl c (lay c q) x y) (zor (R2 19 (pl c (lay c q) x y)) (zshl 1 n)))) g_X4_mark 2 _ _ _ _ rfl ?_
          refine ih114 (Int.toNat (min (cW c - 1) (xo c q + d) + 1 - (x + 1))) (by omega) (x + 1) (zU R2 19 (pl c (lay c q) x y) (zor (R2 19 (pl c (lay c q) x y)) (zshl 1 n))) (by omega) ?_
          refine ⟨by omega, by omega, ?_⟩
          rw [x2]
          unfold mkd
          refine ch_step ?_ fun b j => ?_
          · rw [ch_f]
            rintro ⟨-, -, -, -, z⟩
            omega
          · constructor
            · rintro ⟨z0, z1, z2, z3, z4⟩
              have gj := place_geo hg z1 z2
              by_cases e : yo c j = y ∧ xo c j = x
              · refine .inr ⟨z0, ?_⟩
                rw [← gj.2.2.2.2.2.2, e.1, e.2, z3.1]
              · exact .inl ⟨z0, z1, z2, z3, by omega⟩
            · rintro (⟨z0, z1, z2, z3, z4⟩ | ⟨z0, z1⟩)
              · exact ⟨z0, z1, z2, z3, by omega⟩
              · subst z1
                refine ⟨z0, gp.1, gp.2.1, ?_, by omega⟩
                unfold nr
                omega
      refine lp114 (Int.toNat (min (cW c - 1) (xo c q + d) + 1 - (max 0 ((xo c q) - d)))) (max 0 ((xo c q) - d)) R1 (by omega) ?_
      refine ⟨by omega, by omega, ?_⟩
      rw [y2]
      unfold mkd
      refine ch_congr fun b j => ?_
      constructor
      · rintro ⟨z0, z1, z2, z3, z4⟩
        exact ⟨z0, z1, z2, z3, .inl z4⟩
      · rintro ⟨z0, z1, z2, z3, z4⟩
        have gj := place_geo hg z1 z2
        refine ⟨z0, z1, z2, z3, ?_⟩
        unfold nr at z3
        omega
  refine lp103 (Int.toNat (min (cH c - 1) (yo c q + d) + 1 - (max 0 ((yo c q) - d)))) (max 0 ((yo c q) - d)) R (by omega) ?_
  refine ⟨by omega, by omega, ?_⟩
  unfold mkd
  refine (ch_none fun b j z => ?_).symm
  obtain ⟨-, z1, z2, ⟨z3, z4⟩, z5⟩ := z
  have gj := place_geo hg z1 z2
  omega

set_option maxHeartbeats 1000000 in
theorem s_mark20 {c : zC} {R : zI} (hg : Geo c) {n q d : Int} (h0 : 0 ≤ q) (h1 : q < (cS c : Int)) (d0 : 0 ≤ d) (d1 : d ≤ 3) : MZ m_X4_mark [zr 17, zr 20, zi n, zi q, zi d] (wr c R) (gU (fun R1 => R1 = mkd c R 20 n q d (fun _ => True)) c) := by
  refine MZ.of g_X4_mark ?_
  show ZX m_X4_mark 0 [some (zr 17), some (zr 20), some (zi n), some (zi q), some (zi d), none, none, none, none, none, none, none] [] (wr c R) _
  have gq := place_geo hg h0 h1
  have g2 := hg
  unfold Geo at g2
  have g3 := hg.S
  refine zx_go (pc1 := 8) (l1 := [some (zr 17), some (zr 20), some (zi n), some (zi q), some (zi d), none, none, none, none, none, none, none]) (st1 := [zi q, zr 6]) (w1 := wr c R) g_X4_mark 4 _ _ _ _ rfl ?_
  refine gz_ld6 g_X4_mark rfl hg (by omega) (by omega) ?_
  refine zx_go (pc1 := 20) (l1 := [some (zr 17), some (zr 20), some (zi n), some (zi q), some (zi d), some (zi (lay c q)), none, none, none, none, none, none]) (st1 := [zi q, zr 7, zi 0]) (w1 := wr c R) g_X4_mark 6 _ _ _ _ rfl ?_
  refine gz_ld7 g_X4_mark rfl hg (by omega) (by omega) ?_
  refine zx_go (pc1 := 24) (l1 := [some (zr 17), some (zr 20), some (zi n), some (zi q), some (zi d), some (zi (lay c q)), none, none, none, none, none, none]) (st1 := [zi ((xo c q) - d), zi 0]) (w1 := wr c R) g_X4_mark 2 _ _ _ _ rfl ?_
  refine zx_imax g_X4_mark rfl (Nat.le_of_ble_eq_true rfl) (by decide) (by omega) ?_
  refine zx_go (pc1 := 46) (l1 := [some (zr 17), some (zr 20), some (zi n), some (zi q), some (zi d), some (zi (lay c q)), some (zi (max 0 ((xo c q) - d))), none, none, none, none, none]) (st1 := [zi q, zr 7, zi ((cW c) - 1)]) (w1 := wr c R) g_X4_mark 10 _ _ _ _ rfl ?_
  refine gz_ld7 g_X4_mark rfl hg (by omega) (by omega) ?_
  refine zx_go (pc1 := 50) (l1 := [some (zr 17), some (zr 20), some (zi n), some (zi q), some (zi d), some (zi (lay c q)), some (zi (max 0 ((xo c q) - d))), none, none, none, none, none]) (st1 := [zi ((xo c q) + d), zi ((cW c) - 1)]) (w1 := wr c R) g_X4_mark 2 _ _ _ _ rfl ?_
  refine zx_imin g_X4_mark rfl (Nat.le_of_ble_eq_true rfl) (by omega) (by omega) ?_
  refine zx_go (pc1 := 64) (l1 := [some (zr 17), some (zr 20), some (zi n), some (zi q), some (zi d), some (zi (lay c q)), some (zi (max 0 ((xo c q) - d))), some (zi (min ((cW c) - 1) ((xo c q) + d))), none, none, none, none]) (st1 := [zi q, zr 8, zi 0]) (w1 := wr c R) g_X4_mark 6 _ _ _ _ rfl ?_
  refine gz_ld8 g_X4_mark rfl hg (by omega) (by omega) ?_
  refine zx_go (pc1 := 68) (l1 := [some (zr 17), some (zr 20), some (zi n), some (zi q), some (zi d), some (zi (lay c q)), some (zi (max 0 ((xo c q) - d))), some (zi (min ((cW c) - 1) ((xo c q) + d))), none, none, none, none]) (st1 := [zi ((yo c q) - d), zi 0]) (w1 := wr c R) g_X4_mark 2 _ _ _ _ rfl ?_
  refine zx_imax g_X4_mark rfl (Nat.le_of_ble_eq_true rfl) (by decide) (by omega) ?_
  refine zx_go (pc1 := 90) (l1 := [some (zr 17), some (zr 20), some (zi n), some (zi q), some (zi d), some (zi (lay c q)), some (zi (max 0 ((xo c q) - d))), some (zi (min ((cW c) - 1) ((xo c q) + d))), some (zi (max 0 ((yo c q) - d))), none, none, none]) (st1 := [zi q, zr 8, zi ((cH c) - 1)]) (w1 := wr c R) g_X4_mark 10 _ _ _ _ rfl ?_
  refine gz_ld8 g_X4_mark rfl hg (by omega) (by omega) ?_
  refine zx_go (pc1 := 94) (l1 := [some (zr 17), some (zr 20), some (zi n), some (zi q), some (zi d), some (zi (lay c q)), some (zi (max 0 ((xo c q) - d))), some (zi (min ((cW c) - 1) ((xo c q) + d))), some (zi (max 0 ((yo c q) - d))), none, none, none]) (st1 := [zi ((yo c q) + d), zi ((cH c) - 1)]) (w1 := wr c R) g_X4_mark 2 _ _ _ _ rfl ?_
  refine zx_imin g_X4_mark rfl (Nat.le_of_ble_eq_true rfl) (by omega) (by omega) ?_
  refine zx_go (pc1 := 103) (l1 := [some (zr 17), some (zr 20), some (zi n), some (zi q), some (zi d), some (zi (lay c q)), some (zi (max 0 ((xo c q) - d))), some (zi (min ((cW c) - 1) ((xo c q) + d))), some (zi (max 0 ((yo c q) - d))), some (zi (min ((cH c) - 1) ((yo c q) + d))), some (zi (max 0 ((yo c q) - d))), none]) (st1 := []) (w1 := wr c R) g_X4_mark 3 _ _ _ _ rfl ?_
  have lp103 : ∀ (it : Nat) (y : Int) (R1 : zI), (it : Int) = min (cH c - 1) (yo c q + d) + 1 - y → (max 0 (yo c q - d) ≤ y ∧ y ≤ min (cH c - 1) (yo c q + d) + 1 ∧ R1 = mkd c R 20 n q d (fun j => yo c j < y)) → ZX m_X4_mark 103 [some (zr 17), some (zr 20), some (zi n), some (zi q), some (zi d), some (zi (lay c q)), some (zi (max 0 ((xo c q) - d))), some (zi (min ((cW c) - 1) ((xo c q) + d))), some (zi (max 0 ((yo c q) - d))), some (zi (min ((cH c) - 1) ((yo c q) + d))), some (zi y), none] [] (wr c R1) (gU (fun R1 => R1 = mkd c R 20 n q d (fun _ => True)) c) := by
    refine fun it => Nat.strongRecOn it (fun it ih103 => ?_)
    intro y R1 hn103 hi103
    obtain ⟨y0, y1, y2⟩ := hi103
    refine zx_go (pc1 := 107) (l1 := [some (zr 17), some (zr 20), some (zi n), some (zi q), some (zi d), some (zi (lay c q)), some (zi (max 0 ((xo c q) - d))), some (zi (min ((cW c) - 1) ((xo c q) + d))), some (zi (max 0 ((yo c q) - d))), some (zi (min ((cH c) - 1) ((yo c q) + d))), some (zi y), none]) (st1 := [zi (min ((cH c) - 1) ((yo c q) + d)), zi y]) (w1 := wr c R1) g_X4_mark 2 _ _ _ _ rfl ?_
    refine zx_cmp g_X4_mark rfl (by omega) (by omega) (fun (h107 : (min ((cH c) - 1) ((yo c q) + d)) < y) => ?_) (fun (h107 : ¬ ((min ((cH c) - 1) ((yo c q) + d)) < y)) => ?_)
    · refine zx_vret g_X4_mark rfl ?_
      refine gU_i ?_
      rw [y2]
      unfold mkd
      refine ch_congr fun b j => ?_
      constructor
      · rintro ⟨z0, z1, z2, z3, z4⟩
        exact ⟨z0, z1, z2, z3, trivial⟩
      · rintro ⟨z0, z1, z2, z3, z4⟩
        have gj := place_geo hg z1 z2
        refine ⟨z0, z1, z2, z3, ?_⟩
        unfold nr at z3
        omega
    · refine zx_go (pc1 := 114) (l1 := [some (zr 17), some (zr 20), some (zi n), some (zi q), some (zi d), some (zi (lay c q)), some (zi (max 0 ((xo c q) - d))), some (zi (min ((cW c) - 1) ((xo c q) + d))), some (zi (max 0 ((yo c q) - d))), some (zi (min ((cH c) - 1) ((yo c q) + d))), some (zi y), some (zi (max 0 ((xo c q) - d)))]) (st1 := []) (w1 := wr c R1) g_X4_mark 2 _ _ _ _ rfl ?_
      have lp114 : ∀ (it : Nat) (x : Int) (R2 : zI), (it : Int) = min (cW c - 1) (xo c q + d) + 1 - x → (max 0 (xo c q - d) ≤ x ∧ x ≤ min (cW c - 1) (xo c q + d) + 1 ∧ R2 = mkd c R 20 n q d (fun j => yo c j < y ∨ (yo c j = y ∧ xo c j < x))) → ZX m_X4_mark 114 [some (zr 17), some (zr 20), some (zi n), some (zi q), some (zi d), some (zi (lay c q)), some (zi (max 0 ((xo c q) - d))), some (zi (min ((cW c) - 1) ((xo c q) + d))), some (zi (max 0 ((yo c q) - d))), some (zi (min ((cH c) - 1) ((yo c q) + d))), some (zi y), some (zi x)] [] (wr c R2) (gU (fun R1 => R1 = mkd c R 20 n q d (fun _ => True)) c) := by
        refine fun it => Nat.strongRecOn it (fun it ih114 => ?_)
        intro x R2 hn114 hi114
        obtain ⟨x0, x1, x2⟩ := hi114
        refine zx_go (pc1 := 118) (l1 := [some (zr 17), some (zr 20), some (zi n), some (zi q), some (zi d), some (zi (lay c q)), some (zi (max 0 ((xo c q) - d))), some (zi (min ((cW c) - 1) ((xo c q) + d))), some (zi (max 0 ((yo c q) - d))), some (zi (min ((cH c) - 1) ((yo c q) + d))), some (zi y), some (zi x)]) (st1 := [zi (min ((cW c) - 1) ((xo c q) + d)), zi x]) (w1 := wr c R2) g_X4_mark 2 _ _ _ _ rfl ?_
        refine zx_cmp g_X4_mark rfl (by omega) (by omega) (fun (h118 : (min ((cW c) - 1) ((xo c q) + d)) < x) => ?_) (fun (h118 : ¬ ((min ((cW c) - 1) ((xo c q) + d)) < x)) => ?_)
        · refine zx_go (pc1 := 103) (l1 := [some (zr 17), some (zr 20), some (zi n), some (zi q), some (zi d), some (zi (lay c q)), some (zi (max 0 ((xo c q) - d))), some (zi (min ((cW c) - 1) ((xo c q) + d))), some (zi (max 0 ((yo c q) - d))), some (zi (min ((cH c) - 1) ((yo c q) + d))), some (zi (y + 1)), some (zi x)]) (st1 := []) (w1 := wr c R2) g_X4_mark 2 _ _ _ _ rfl ?_
          refine ih103 (Int.toNat (min (cH c - 1) (yo c q + d) + 1 - (y + 1))) (by omega) (y + 1) R2 (by omega) ?_
          refine ⟨by omega, by omega, ?_⟩
          rw [x2]
          unfold mkd
          refine ch_congr fun b j => ?_
          constructor
          · rintro ⟨z0, z1, z2, z3, z4⟩
            exact ⟨z0, z1, z2, z3, by omega⟩
          · rintro ⟨z0, z1, z2, z3, z4⟩
            have gj := place_geo hg z1 z2
            refine ⟨z0, z1, z2, z3, ?_⟩
            unfold nr at z3
            omega
        · have gp := pl_geo hg (z := lay c q) (x := x) (y := y) (by omega) (by omega) (by omega) (by omega) (by omega) (by omega)
          refine zx_go (pc1 := 132) (l1 := [some (zr 17), some (zr 20), some (zi n), some (zi q), some (zi d), some (zi (lay c q)), some (zi (max 0 ((xo c q) - d))), some (zi (min ((cW c) - 1) ((xo c q) + d))), some (zi (max 0 ((yo c q) - d))), some (zi (min ((cH c) - 1) ((yo c q) + d))), some (zi y), some (zi x)]) (st1 := [zi y, zi x, zi (lay c q), zr 2, zr 20]) (w1 := wr c R2) g_X4_mark 6 _ _ _ _ rfl ?_
          refine zx_cvF (As := [zi (lay c q), zi x, zi y]) (rest := [zr 20]) g_X4_mark rfl g_X2_placeAt rfl rfl (Nat.le_of_ble_eq_true rfl) (Nat.le_of_ble_eq_true rfl) rfl (by decide) (s_placeAt (lay c q) x y) ?_
          refine zx_go (pc1 := 136) (l1 := [some (zr 17), some (zr 20), some (zi n), some (zi q), some (zi d), some (zi (lay c q)), some (zi (max 0 ((xo c q) - d))), some (zi (min ((cW c) - 1) ((xo c q) + d))), some (zi (max 0 ((yo c q) - d))), some (zi (min ((cH c) - 1) ((yo c q) + d))), some (zi y), some (zi x)]) (st1 := [zi (pl c (lay c q) x y), zr 20, zi (pl c (lay c q) x y), zr 20]) (w1 := wr c R2) g_X4_mark 1 _ _ _ _ rfl ?_
          refine gz_iald g_X4_mark rfl (n := cS c) rfl (by decide) rfl (by have := hg.S; omega) (by omega) (by omega) ?_
          refine zx_go (pc1 := 140) (l1 := [some (zr 17), some (zr 20), some (zi n), some (zi q), some (zi d), some (zi (lay c q)), some (zi (max 0 ((xo c q) - d))), some (zi (min ((cW c) - 1) ((xo c q) + d))), some (zi (max 0 ((yo c q) - d))), some (zi (min ((cH c) - 1) ((yo c q) + d))), some (zi y), some (zi x)]) (st1 := [zi (zshl 1 n), zi (R2 20 (pl c (lay c q) x y)), zi (pl c (lay c q) x y), zr 20]) (w1 := wr c R2) g_X4_mark 3 _ _ _ _ rfl ?_
          refine zx_go (pc1 := 141) (l1 := [some (zr 17), some (zr 20), some (zi n), some (zi q), some (zi d), some (zi (lay c q)), some (zi (max 0 ((xo c q) - d))), some (zi (min ((cW c) - 1) ((xo c q) + d))), some (zi (max 0 ((yo c q) - d))), some (zi (min ((cH c) - 1) ((yo c q) + d))), some (zi y), some (zi x)]) (st1 := [zi (zor (R2 20 (pl c (lay c q) x y)) (zshl 1 n)), zi (pl c (lay c q) x y), zr 20]) (w1 := wr c R2) g_X4_mark 1 _ _ _ _ rfl ?_
          refine gz_iast g_X4_mark rfl (n := cS c) rfl (by decide) (by refine ⟨?_, ?_, ?_, ?_, ?_⟩ <;> simp) (by have := hg.S; omega) (by omega) (by omega) ?_
          refine zx_go (pc1 := 114) (l1 := [some (zr 17), some (zr 20), some (zi n), some (zi q), some (zi d), some (zi (lay c q)), some (zi (max 0 ((xo c q) - d))), some (zi (min ((cW c) - 1) ((xo c q) + d))), some (zi (max 0 ((yo c q) - d))), some (zi (min ((cH c) - 1) ((yo c q) + d))), some (zi y), some (zi (x + 1))]) (st1 := []) (w1 := wr c (zU R2 20 (pl c (lay c q) x y) (zor (R2 20 (pl c (lay c q) x y)) (zshl 1 n)))) g_X4_mark 2 _ _ _ _ rfl ?_
          refine ih114 (Int.toNat (min (cW c - 1) (xo c q + d) + 1 - (x + 1))) (by omega) (x + 1) (zU R2 20 (pl c (lay c q) x y) (zor (R2 20 (pl c (lay c q) x y)) (zshl 1 n))) (by omega) ?_
          refine ⟨by omega, by omega, ?_⟩
          rw [x2]
          unfold mkd
          refine ch_step ?_ fun b j => ?_
          · rw [ch_f]
            rintro ⟨-, -, -, -, z⟩
            omega
          · constructor
            · rintro ⟨z0, z1, z2, z3, z4⟩
              have gj := place_geo hg z1 z2
              by_cases e : yo c j = y ∧ xo c j = x
              · refine .inr ⟨z0, ?_⟩
                rw [← gj.2.2.2.2.2.2, e.1, e.2, z3.1]
              · exact .inl ⟨z0, z1, z2, z3, by omega⟩
            · rintro (⟨z0, z1, z2, z3, z4⟩ | ⟨z0, z1⟩)
              · exact ⟨z0, z1, z2, z3, by omega⟩
              · subst z1
                refine ⟨z0, gp.1, gp.2.1, ?_, by omega⟩
                unfold nr
                omega
      refine lp114 (Int.toNat (min (cW c - 1) (xo c q + d) + 1 - (max 0 ((xo c q) - d)))) (max 0 ((xo c q) - d)) R1 (by omega) ?_
      refine ⟨by omega, by omega, ?_⟩
      rw [y2]
      unfold mkd
      refine ch_congr fun b j => ?_
      constructor
      · rintro ⟨z0, z1, z2, z3, z4⟩
        exact ⟨z0, z1, z2, z3, .inl z4⟩
      · rintro ⟨z0, z1, z2, z3, z4⟩
        have gj := place_geo hg z1 z2
        refine ⟨z0, z1, z2, z3, ?_⟩
        unfold nr at z3
        omega
  refine lp103 (Int.toNat (min (cH c - 1) (yo c q + d) + 1 - (max 0 ((yo c q) - d)))) (max 0 ((yo c q) - d)) R (by omega) ?_
  refine ⟨by omega, by omega, ?_⟩
  unfold mkd
  refine (ch_none fun b j z => ?_).symm
  obtain ⟨-, z1, z2, ⟨z3, z4⟩, z5⟩ := z
  have gj := place_geo hg z1 z2
  omega

set_option maxHeartbeats 1000000 in
theorem s_clashing21 {c : zC} {R : zI} (hg : Geo c) {n p sh : Int} (h0 : 0 ≤ p) (h1 : p < (cS c : Int)) : MZ m_X4_clashing [zr 21, zi n, zi p, zi sh] (wr c R) (qF (zi (clv (R 23) (R 24) n p sh)) (wr c R)) := by
  refine MZ.of g_X4_clashing ?_
  show ZX m_X4_clashing 0 [some (zr 21), some (zi n), some (zi p), some (zi sh), none, none] [] (wr c R) _
  refine zx_go (pc1 := 3) (l1 := [some (zr 21), some (zi n), some (zi p), some (zi sh), none, none]) (st1 := [zi (zshl 1 n)]) (w1 := wr c R) g_X4_clashing 3 _ _ _ _ rfl ?_
  refine zx_go (pc1 := 9) (l1 := [some (zr 21), some (zi n), some (zi p), some (zi sh), some (zi (zshl 1 n)), none]) (st1 := [zi (zand sh (zshl 1 n))]) (w1 := wr c R) g_X4_clashing 4 _ _ _ _ rfl ?_
  refine zx_if g_X4_clashing rfl (zand_R _ _) (fun (h9 : (zand sh (zshl 1 n)) = 0) => ?_) (fun (h9 : ¬ (zand sh (zshl 1 n)) = 0) => ?_)
  · refine zx_go (pc1 := 26) (l1 := [some (zr 21), some (zi n), some (zi p), some (zi sh), some (zi (zshl 1 n)), none]) (st1 := [zi p, zr 23]) (w1 := wr c R) g_X4_clashing 3 _ _ _ _ rfl ?_
    refine gz_iald g_X4_clashing rfl (n := cS c) rfl (by decide) rfl (by have := hg.S; omega) (by omega) (by omega) ?_
    refine zx_go (pc1 := 32) (l1 := [some (zr 21), some (zi n), some (zi p), some (zi sh), some (zi (zshl 1 n)), none]) (st1 := [zi p, zr 24, zi (R 23 p)]) (w1 := wr c R) g_X4_clashing 3 _ _ _ _ rfl ?_
    refine gz_iald g_X4_clashing rfl (n := cS c) rfl (by decide) rfl (by have := hg.S; omega) (by omega) (by omega) ?_
    refine zx_go (pc1 := 35) (l1 := [some (zr 21), some (zi n), some (zi p), some (zi sh), some (zi (zshl 1 n)), none]) (st1 := [zi (zand (R 24 p) sh), zi (R 23 p)]) (w1 := wr c R) g_X4_clashing 2 _ _ _ _ rfl ?_
    refine zx_go (pc1 := 36) (l1 := [some (zr 21), some (zi n), some (zi p), some (zi sh), some (zi (zshl 1 n)), none]) (st1 := [zi (zor (R 23 p) (zand (R 24 p) sh))]) (w1 := wr c R) g_X4_clashing 1 _ _ _ _ rfl ?_
    refine zx_go (pc1 := 44) (l1 := [some (zr 21), some (zi n), some (zi p), some (zi sh), some (zi (zshl 1 n)), some (zi (zor (R 23 p) (zand (R 24 p) sh)))]) (st1 := [zi (zxor (zshl 1 n) (-1)), zi (zor (R 23 p) (zand (R 24 p) sh))]) (w1 := wr c R) g_X4_clashing 5 _ _ _ _ rfl ?_
    refine zx_go (pc1 := 45) (l1 := [some (zr 21), some (zi n), some (zi p), some (zi sh), some (zi (zshl 1 n)), some (zi (zor (R 23 p) (zand (R 24 p) sh)))]) (st1 := [zi (zand (zor (R 23 p) (zand (R 24 p) sh)) (zxor (zshl 1 n) (-1)))]) (w1 := wr c R) g_X4_clashing 1 _ _ _ _ rfl ?_
    refine zx_iret g_X4_clashing rfl (.inl rfl) ?_
    refine qF_i ?_
    unfold clv
    first | (rw [pI_t h9]; done) | (rw [pI_f h9]; done) | (rw [pI_f (fun q => q h9)]; done)
  · refine zx_go (pc1 := 17) (l1 := [some (zr 21), some (zi n), some (zi p), some (zi sh), some (zi (zshl 1 n)), none]) (st1 := [zi p, zr 24]) (w1 := wr c R) g_X4_clashing 3 _ _ _ _ rfl ?_
    refine gz_iald g_X4_clashing rfl (n := cS c) rfl (by decide) rfl (by have := hg.S; omega) (by omega) (by omega) ?_
    refine zx_go (pc1 := 44) (l1 := [some (zr 21), some (zi n), some (zi p), some (zi sh), some (zi (zshl 1 n)), some (zi (R 24 p))]) (st1 := [zi (zxor (zshl 1 n) (-1)), zi (R 24 p)]) (w1 := wr c R) g_X4_clashing 6 _ _ _ _ rfl ?_
    refine zx_go (pc1 := 45) (l1 := [some (zr 21), some (zi n), some (zi p), some (zi sh), some (zi (zshl 1 n)), some (zi (R 24 p))]) (st1 := [zi (zand (R 24 p) (zxor (zshl 1 n) (-1)))]) (w1 := wr c R) g_X4_clashing 1 _ _ _ _ rfl ?_
    refine zx_iret g_X4_clashing rfl (.inl rfl) ?_
    refine qF_i ?_
    unfold clv
    first | (rw [pI_t h9]; done) | (rw [pI_f h9]; done) | (rw [pI_f (fun q => q h9)]; done)

set_option maxHeartbeats 1000000 in
theorem s_mark23 {c : zC} {R : zI} (hg : Geo c) {n q d : Int} (h0 : 0 ≤ q) (h1 : q < (cS c : Int)) (d0 : 0 ≤ d) (d1 : d ≤ 3) : MZ m_X4_mark [zr 21, zr 23, zi n, zi q, zi d] (wr c R) (gU (fun R1 => R1 = mkd c R 23 n q d (fun _ => True)) c) := by
  refine MZ.of g_X4_mark ?_
  show ZX m_X4_mark 0 [some (zr 21), some (zr 23), some (zi n), some (zi q), some (zi d), none, none, none, none, none, none, none] [] (wr c R) _
  have gq := place_geo hg h0 h1
  have g2 := hg
  unfold Geo at g2
  have g3 := hg.S
  refine zx_go (pc1 := 8) (l1 := [some (zr 21), some (zr 23), some (zi n), some (zi q), some (zi d), none, none, none, none, none, none, none]) (st1 := [zi q, zr 6]) (w1 := wr c R) g_X4_mark 4 _ _ _ _ rfl ?_
  refine gz_ld6 g_X4_mark rfl hg (by omega) (by omega) ?_
  refine zx_go (pc1 := 20) (l1 := [some (zr 21), some (zr 23), some (zi n), some (zi q), some (zi d), some (zi (lay c q)), none, none, none, none, none, none]) (st1 := [zi q, zr 7, zi 0]) (w1 := wr c R) g_X4_mark 6 _ _ _ _ rfl ?_
  refine gz_ld7 g_X4_mark rfl hg (by omega) (by omega) ?_
  refine zx_go (pc1 := 24) (l1 := [some (zr 21), some (zr 23), some (zi n), some (zi q), some (zi d), some (zi (lay c q)), none, none, none, none, none, none]) (st1 := [zi ((xo c q) - d), zi 0]) (w1 := wr c R) g_X4_mark 2 _ _ _ _ rfl ?_
  refine zx_imax g_X4_mark rfl (Nat.le_of_ble_eq_true rfl) (by decide) (by omega) ?_
  refine zx_go (pc1 := 46) (l1 := [some (zr 21), some (zr 23), some (zi n), some (zi q), some (zi d), some (zi (lay c q)), some (zi (max 0 ((xo c q) - d))), none, none, none, none, none]) (st1 := [zi q, zr 7, zi ((cW c) - 1)]) (w1 := wr c R) g_X4_mark 10 _ _ _ _ rfl ?_
  refine gz_ld7 g_X4_mark rfl hg (by omega) (by omega) ?_
  refine zx_go (pc1 := 50) (l1 := [some (zr 21), some (zr 23), some (zi n), some (zi q), some (zi d), some (zi (lay c q)), some (zi (max 0 ((xo c q) - d))), none, none, none, none, none]) (st1 := [zi ((xo c q) + d), zi ((cW c) - 1)]) (w1 := wr c R) g_X4_mark 2 _ _ _ _ rfl ?_
  refine zx_imin g_X4_mark rfl (Nat.le_of_ble_eq_true rfl) (by omega) (by omega) ?_
  refine zx_go (pc1 := 64) (l1 := [some (zr 21), some (zr 23), some (zi n), some (zi q), some (zi d), some (zi (lay c q)), some (zi (max 0 ((xo c q) - d))), some (zi (min ((cW c) - 1) ((xo c q) + d))), none, none, none, none]) (st1 := [zi q, zr 8, zi 0]) (w1 := wr c R) g_X4_mark 6 _ _ _ _ rfl ?_
  refine gz_ld8 g_X4_mark rfl hg (by omega) (by omega) ?_
  refine zx_go (pc1 := 68) (l1 := [some (zr 21), some (zr 23), some (zi n), some (zi q), some (zi d), some (zi (lay c q)), some (zi (max 0 ((xo c q) - d))), some (zi (min ((cW c) - 1) ((xo c q) + d))), none, none, none, none]) (st1 := [zi ((yo c q) - d), zi 0]) (w1 := wr c R) g_X4_mark 2 _ _ _ _ rfl ?_
  refine zx_imax g_X4_mark rfl (Nat.le_of_ble_eq_true rfl) (by decide) (by omega) ?_
  refine zx_go (pc1 := 90) (l1 := [some (zr 21), some (zr 23), some (zi n), some (zi q), some (zi d), some (zi (lay c q)), some (zi (max 0 ((xo c q) - d))), some (zi (min ((cW c) - 1) ((xo c q) + d))), some (zi (max 0 ((yo c q) - d))), none, none, none]) (st1 := [zi q, zr 8, zi ((cH c) - 1)]) (w1 := wr c R) g_X4_mark 10 _ _ _ _ rfl ?_
  refine gz_ld8 g_X4_mark rfl hg (by omega) (by omega) ?_
  refine zx_go (pc1 := 94) (l1 := [some (zr 21), some (zr 23), some (zi n), some (zi q), some (zi d), some (zi (lay c q)), some (zi (max 0 ((xo c q) - d))), some (zi (min ((cW c) - 1) ((xo c q) + d))), some (zi (max 0 ((yo c q) - d))), none, none, none]) (st1 := [zi ((yo c q) + d), zi ((cH c) - 1)]) (w1 := wr c R) g_X4_mark 2 _ _ _ _ rfl ?_
  refine zx_imin g_X4_mark rfl (Nat.le_of_ble_eq_true rfl) (by omega) (by omega) ?_
  refine zx_go (pc1 := 103) (l1 := [some (zr 21), some (zr 23), some (zi n), some (zi q), some (zi d), some (zi (lay c q)), some (zi (max 0 ((xo c q) - d))), some (zi (min ((cW c) - 1) ((xo c q) + d))), some (zi (max 0 ((yo c q) - d))), some (zi (min ((cH c) - 1) ((yo c q) + d))), some (zi (max 0 ((yo c q) - d))), none]) (st1 := []) (w1 := wr c R) g_X4_mark 3 _ _ _ _ rfl ?_
  have lp103 : ∀ (it : Nat) (y : Int) (R1 : zI), (it : Int) = min (cH c - 1) (yo c q + d) + 1 - y → (max 0 (yo c q - d) ≤ y ∧ y ≤ min (cH c - 1) (yo c q + d) + 1 ∧ R1 = mkd c R 23 n q d (fun j => yo c j < y)) → ZX m_X4_mark 103 [some (zr 21), some (zr 23), some (zi n), some (zi q), some (zi d), some (zi (lay c q)), some (zi (max 0 ((xo c q) - d))), some (zi (min ((cW c) - 1) ((xo c q) + d))), some (zi (max 0 ((yo c q) - d))), some (zi (min ((cH c) - 1) ((yo c q) + d))), some (zi y), none] [] (wr c R1) (gU (fun R1 => R1 = mkd c R 23 n q d (fun _ => True)) c) := by
    refine fun it => Nat.strongRecOn it (fun it ih103 => ?_)
    intro y R1 hn103 hi103
    obtain ⟨y0, y1, y2⟩ := hi103
    refine zx_go (pc1 := 107) (l1 := [some (zr 21), some (zr 23), some (zi n), some (zi q), some (zi d), some (zi (lay c q)), some (zi (max 0 ((xo c q) - d))), some (zi (min ((cW c) - 1) ((xo c q) + d))), some (zi (max 0 ((yo c q) - d))), some (zi (min ((cH c) - 1) ((yo c q) + d))), some (zi y), none]) (st1 := [zi (min ((cH c) - 1) ((yo c q) + d)), zi y]) (w1 := wr c R1) g_X4_mark 2 _ _ _ _ rfl ?_
    refine zx_cmp g_X4_mark rfl (by omega) (by omega) (fun (h107 : (min ((cH c) - 1) ((yo c q) + d)) < y) => ?_) (fun (h107 : ¬ ((min ((cH c) - 1) ((yo c q) + d)) < y)) => ?_)
    · refine zx_vret g_X4_mark rfl ?_
      refine gU_i ?_
      rw [y2]
      unfold mkd
      refine ch_congr fun b j => ?_
      constructor
      · rintro ⟨z0, z1, z2, z3, z4⟩
        exact ⟨z0, z1, z2, z3, trivial⟩
      · rintro ⟨z0, z1, z2, z3, z4⟩
        have gj := place_geo hg z1 z2
        refine ⟨z0, z1, z2, z3, ?_⟩
        unfold nr at z3
        omega
    · refine zx_go (pc1 := 114) (l1 := [some (zr 21), some (zr 23), some (zi n), some (zi q), some (zi d), some (zi (lay c q)), some (zi (max 0 ((xo c q) - d))), some (zi (min ((cW c) - 1) ((xo c q) + d))), some (zi (max 0 ((yo c q) - d))), some (zi (min ((cH c) - 1) ((yo c q) + d))), some (zi y), some (zi (max 0 ((xo c q) - d)))]) (st1 := []) (w1 := wr c R1) g_X4_mark 2 _ _ _ _ rfl ?_
      have lp114 : ∀ (it : Nat) (x : Int) (R2 : zI), (it : Int) = min (cW c - 1) (xo c q + d) + 1 - x → (max 0 (xo c q - d) ≤ x ∧ x ≤ min (cW c - 1) (xo c q + d) + 1 ∧ R2 = mkd c R 23 n q d (fun j => yo c j < y ∨ (yo c j = y ∧ xo c j < x))) → ZX m_X4_mark 114 [some (zr 21), some (zr 23), some (zi n), some (zi q), some (zi d), some (zi (lay c q)), some (zi (max 0 ((xo c q) - d))), some (zi (min ((cW c) - 1) ((xo c q) + d))), some (zi (max 0 ((yo c q) - d))), some (zi (min ((cH c) - 1) ((yo c q) + d))), some (zi y), some (zi x)] [] (wr c R2) (gU (fun R1 => R1 = mkd c R 23 n q d (fun _ => True)) c) := by
        refine fun it => Nat.strongRecOn it (fun it ih114 => ?_)
        intro x R2 hn114 hi114
        obtain ⟨x0, x1, x2⟩ := hi114
        refine zx_go (pc1 := 118) (l1 := [some (zr 21), some (zr 23), some (zi n), some (zi q), some (zi d), some (zi (lay c q)), some (zi (max 0 ((xo c q) - d))), some (zi (min ((cW c) - 1) ((xo c q) + d))), some (zi (max 0 ((yo c q) - d))), some (zi (min ((cH c) - 1) ((yo c q) + d))), some (zi y), some (zi x)]) (st1 := [zi (min ((cW c) - 1) ((xo c q) + d)), zi x]) (w1 := wr c R2) g_X4_mark 2 _ _ _ _ rfl ?_
        refine zx_cmp g_X4_mark rfl (by omega) (by omega) (fun (h118 : (min ((cW c) - 1) ((xo c q) + d)) < x) => ?_) (fun (h118 : ¬ ((min ((cW c) - 1) ((xo c q) + d)) < x)) => ?_)
        · refine zx_go (pc1 := 103) (l1 := [some (zr 21), some (zr 23), some (zi n), some (zi q), some (zi d), some (zi (lay c q)), some (zi (max 0 ((xo c q) - d))), some (zi (min ((cW c) - 1) ((xo c q) + d))), some (zi (max 0 ((yo c q) - d))), some (zi (min ((cH c) - 1) ((yo c q) + d))), some (zi (y + 1)), some (zi x)]) (st1 := []) (w1 := wr c R2) g_X4_mark 2 _ _ _ _ rfl ?_
          refine ih103 (Int.toNat (min (cH c - 1) (yo c q + d) + 1 - (y + 1))) (by omega) (y + 1) R2 (by omega) ?_
          refine ⟨by omega, by omega, ?_⟩
          rw [x2]
          unfold mkd
          refine ch_congr fun b j => ?_
          constructor
          · rintro ⟨z0, z1, z2, z3, z4⟩
            exact ⟨z0, z1, z2, z3, by omega⟩
          · rintro ⟨z0, z1, z2, z3, z4⟩
            have gj := place_geo hg z1 z2
            refine ⟨z0, z1, z2, z3, ?_⟩
            unfold nr at z3
            omega
        · have gp := pl_geo hg (z := lay c q) (x := x) (y := y) (by omega) (by omega) (by omega) (by omega) (by omega) (by omega)
          refine zx_go (pc1 := 132) (l1 := [some (zr 21), some (zr 23), some (zi n), some (zi q), some (zi d), some (zi (lay c q)), some (zi (max 0 ((xo c q) - d))), some (zi (min ((cW c) - 1) ((xo c q) + d))), some (zi (max 0 ((yo c q) - d))), some (zi (min ((cH c) - 1) ((yo c q) + d))), some (zi y), some (zi x)]) (st1 := [zi y, zi x, zi (lay c q), zr 2, zr 23]) (w1 := wr c R2) g_X4_mark 6 _ _ _ _ rfl ?_
          refine zx_cvF (As := [zi (lay c q), zi x, zi y]) (rest := [zr 23]) g_X4_mark rfl g_X2_placeAt rfl rfl (Nat.le_of_ble_eq_true rfl) (Nat.le_of_ble_eq_true rfl) rfl (by decide) (s_placeAt (lay c q) x y) ?_
          refine zx_go (pc1 := 136) (l1 := [some (zr 21), some (zr 23), some (zi n), some (zi q), some (zi d), some (zi (lay c q)), some (zi (max 0 ((xo c q) - d))), some (zi (min ((cW c) - 1) ((xo c q) + d))), some (zi (max 0 ((yo c q) - d))), some (zi (min ((cH c) - 1) ((yo c q) + d))), some (zi y), some (zi x)]) (st1 := [zi (pl c (lay c q) x y), zr 23, zi (pl c (lay c q) x y), zr 23]) (w1 := wr c R2) g_X4_mark 1 _ _ _ _ rfl ?_
          refine gz_iald g_X4_mark rfl (n := cS c) rfl (by decide) rfl (by have := hg.S; omega) (by omega) (by omega) ?_
          refine zx_go (pc1 := 140) (l1 := [some (zr 21), some (zr 23), some (zi n), some (zi q), some (zi d), some (zi (lay c q)), some (zi (max 0 ((xo c q) - d))), some (zi (min ((cW c) - 1) ((xo c q) + d))), some (zi (max 0 ((yo c q) - d))), some (zi (min ((cH c) - 1) ((yo c q) + d))), some (zi y), some (zi x)]) (st1 := [zi (zshl 1 n), zi (R2 23 (pl c (lay c q) x y)), zi (pl c (lay c q) x y), zr 23]) (w1 := wr c R2) g_X4_mark 3 _ _ _ _ rfl ?_
          refine zx_go (pc1 := 141) (l1 := [some (zr 21), some (zr 23), some (zi n), some (zi q), some (zi d), some (zi (lay c q)), some (zi (max 0 ((xo c q) - d))), some (zi (min ((cW c) - 1) ((xo c q) + d))), some (zi (max 0 ((yo c q) - d))), some (zi (min ((cH c) - 1) ((yo c q) + d))), some (zi y), some (zi x)]) (st1 := [zi (zor (R2 23 (pl c (lay c q) x y)) (zshl 1 n)), zi (pl c (lay c q) x y), zr 23]) (w1 := wr c R2) g_X4_mark 1 _ _ _ _ rfl ?_
          refine gz_iast g_X4_mark rfl (n := cS c) rfl (by decide) (by refine ⟨?_, ?_, ?_, ?_, ?_⟩ <;> simp) (by have := hg.S; omega) (by omega) (by omega) ?_
          refine zx_go (pc1 := 114) (l1 := [some (zr 21), some (zr 23), some (zi n), some (zi q), some (zi d), some (zi (lay c q)), some (zi (max 0 ((xo c q) - d))), some (zi (min ((cW c) - 1) ((xo c q) + d))), some (zi (max 0 ((yo c q) - d))), some (zi (min ((cH c) - 1) ((yo c q) + d))), some (zi y), some (zi (x + 1))]) (st1 := []) (w1 := wr c (zU R2 23 (pl c (lay c q) x y) (zor (R2 23 (pl c (lay c q) x y)) (zshl 1 n)))) g_X4_mark 2 _ _ _ _ rfl ?_
          refine ih114 (Int.toNat (min (cW c - 1) (xo c q + d) + 1 - (x + 1))) (by omega) (x + 1) (zU R2 23 (pl c (lay c q) x y) (zor (R2 23 (pl c (lay c q) x y)) (zshl 1 n))) (by omega) ?_
          refine ⟨by omega, by omega, ?_⟩
          rw [x2]
          unfold mkd
          refine ch_step ?_ fun b j => ?_
          · rw [ch_f]
            rintro ⟨-, -, -, -, z⟩
            omega
          · constructor
            · rintro ⟨z0, z1, z2, z3, z4⟩
              have gj := place_geo hg z1 z2
              by_cases e : yo c j = y ∧ xo c j = x
              · refine .inr ⟨z0, ?_⟩
                rw [← gj.2.2.2.2.2.2, e.1, e.2, z3.1]
              · exact .inl ⟨z0, z1, z2, z3, by omega⟩
            · rintro (⟨z0, z1, z2, z3, z4⟩ | ⟨z0, z1⟩)
              · exact ⟨z0, z1, z2, z3, by omega⟩
              · subst z1
                refine ⟨z0, gp.1, gp.2.1, ?_, by omega⟩
                unfold nr
                omega
      refine lp114 (Int.toNat (min (cW c - 1) (xo c q + d) + 1 - (max 0 ((xo c q) - d)))) (max 0 ((xo c q) - d)) R1 (by omega) ?_
      refine ⟨by omega, by omega, ?_⟩
      rw [y2]
      unfold mkd
      refine ch_congr fun b j => ?_
      constructor
      · rintro ⟨z0, z1, z2, z3, z4⟩
        exact ⟨z0, z1, z2, z3, .inl z4⟩
      · rintro ⟨z0, z1, z2, z3, z4⟩
        have gj := place_geo hg z1 z2
        refine ⟨z0, z1, z2, z3, ?_⟩
        unfold nr at z3
        omega
  refine lp103 (Int.toNat (min (cH c - 1) (yo c q + d) + 1 - (max 0 ((yo c q) - d)))) (max 0 ((yo c q) - d)) R (by omega) ?_
  refine ⟨by omega, by omega, ?_⟩
  unfold mkd
  refine (ch_none fun b j z => ?_).symm
  obtain ⟨-, z1, z2, ⟨z3, z4⟩, z5⟩ := z
  have gj := place_geo hg z1 z2
  omega

set_option maxHeartbeats 1000000 in
theorem s_mark24 {c : zC} {R : zI} (hg : Geo c) {n q d : Int} (h0 : 0 ≤ q) (h1 : q < (cS c : Int)) (d0 : 0 ≤ d) (d1 : d ≤ 3) : MZ m_X4_mark [zr 21, zr 24, zi n, zi q, zi d] (wr c R) (gU (fun R1 => R1 = mkd c R 24 n q d (fun _ => True)) c) := by
  refine MZ.of g_X4_mark ?_
  show ZX m_X4_mark 0 [some (zr 21), some (zr 24), some (zi n), some (zi q), some (zi d), none, none, none, none, none, none, none] [] (wr c R) _
  have gq := place_geo hg h0 h1
  have g2 := hg
  unfold Geo at g2
  have g3 := hg.S
  refine zx_go (pc1 := 8) (l1 := [some (zr 21), some (zr 24), some (zi n), some (zi q), some (zi d), none, none, none, none, none, none, none]) (st1 := [zi q, zr 6]) (w1 := wr c R) g_X4_mark 4 _ _ _ _ rfl ?_
  refine gz_ld6 g_X4_mark rfl hg (by omega) (by omega) ?_
  refine zx_go (pc1 := 20) (l1 := [some (zr 21), some (zr 24), some (zi n), some (zi q), some (zi d), some (zi (lay c q)), none, none, none, none, none, none]) (st1 := [zi q, zr 7, zi 0]) (w1 := wr c R) g_X4_mark 6 _ _ _ _ rfl ?_
  refine gz_ld7 g_X4_mark rfl hg (by omega) (by omega) ?_
  refine zx_go (pc1 := 24) (l1 := [some (zr 21), some (zr 24), some (zi n), some (zi q), some (zi d), some (zi (lay c q)), none, none, none, none, none, none]) (st1 := [zi ((xo c q) - d), zi 0]) (w1 := wr c R) g_X4_mark 2 _ _ _ _ rfl ?_
  refine zx_imax g_X4_mark rfl (Nat.le_of_ble_eq_true rfl) (by decide) (by omega) ?_
  refine zx_go (pc1 := 46) (l1 := [some (zr 21), some (zr 24), some (zi n), some (zi q), some (zi d), some (zi (lay c q)), some (zi (max 0 ((xo c q) - d))), none, none, none, none, none]) (st1 := [zi q, zr 7, zi ((cW c) - 1)]) (w1 := wr c R) g_X4_mark 10 _ _ _ _ rfl ?_
  refine gz_ld7 g_X4_mark rfl hg (by omega) (by omega) ?_
  refine zx_go (pc1 := 50) (l1 := [some (zr 21), some (zr 24), some (zi n), some (zi q), some (zi d), some (zi (lay c q)), some (zi (max 0 ((xo c q) - d))), none, none, none, none, none]) (st1 := [zi ((xo c q) + d), zi ((cW c) - 1)]) (w1 := wr c R) g_X4_mark 2 _ _ _ _ rfl ?_
  refine zx_imin g_X4_mark rfl (Nat.le_of_ble_eq_true rfl) (by omega) (by omega) ?_
  refine zx_go (pc1 := 64) (l1 := [some (zr 21), some (zr 24), some (zi n), some (zi q), some (zi d), some (zi (lay c q)), some (zi (max 0 ((xo c q) - d))), some (zi (min ((cW c) - 1) ((xo c q) + d))), none, none, none, none]) (st1 := [zi q, zr 8, zi 0]) (w1 := wr c R) g_X4_mark 6 _ _ _ _ rfl ?_
  refine gz_ld8 g_X4_mark rfl hg (by omega) (by omega) ?_
  refine zx_go (pc1 := 68) (l1 := [some (zr 21), some (zr 24), some (zi n), some (zi q), some (zi d), some (zi (lay c q)), some (zi (max 0 ((xo c q) - d))), some (zi (min ((cW c) - 1) ((xo c q) + d))), none, none, none, none]) (st1 := [zi ((yo c q) - d), zi 0]) (w1 := wr c R) g_X4_mark 2 _ _ _ _ rfl ?_
  refine zx_imax g_X4_mark rfl (Nat.le_of_ble_eq_true rfl) (by decide) (by omega) ?_
  refine zx_go (pc1 := 90) (l1 := [some (zr 21), some (zr 24), some (zi n), some (zi q), some (zi d), some (zi (lay c q)), some (zi (max 0 ((xo c q) - d))), some (zi (min ((cW c) - 1) ((xo c q) + d))), some (zi (max 0 ((yo c q) - d))), none, none, none]) (st1 := [zi q, zr 8, zi ((cH c) - 1)]) (w1 := wr c R) g_X4_mark 10 _ _ _ _ rfl ?_
  refine gz_ld8 g_X4_mark rfl hg (by omega) (by omega) ?_
  refine zx_go (pc1 := 94) (l1 := [some (zr 21), some (zr 24), some (zi n), some (zi q), some (zi d), some (zi (lay c q)), some (zi (max 0 ((xo c q) - d))), some (zi (min ((cW c) - 1) ((xo c q) + d))), some (zi (max 0 ((yo c q) - d))), none, none, none]) (st1 := [zi ((yo c q) + d), zi ((cH c) - 1)]) (w1 := wr c R) g_X4_mark 2 _ _ _ _ rfl ?_
  refine zx_imin g_X4_mark rfl (Nat.le_of_ble_eq_true rfl) (by omega) (by omega) ?_
  refine zx_go (pc1 := 103) (l1 := [some (zr 21), some (zr 24), some (zi n), some (zi q), some (zi d), some (zi (lay c q)), some (zi (max 0 ((xo c q) - d))), some (zi (min ((cW c) - 1) ((xo c q) + d))), some (zi (max 0 ((yo c q) - d))), some (zi (min ((cH c) - 1) ((yo c q) + d))), some (zi (max 0 ((yo c q) - d))), none]) (st1 := []) (w1 := wr c R) g_X4_mark 3 _ _ _ _ rfl ?_
  have lp103 : ∀ (it : Nat) (y : Int) (R1 : zI), (it : Int) = min (cH c - 1) (yo c q + d) + 1 - y → (max 0 (yo c q - d) ≤ y ∧ y ≤ min (cH c - 1) (yo c q + d) + 1 ∧ R1 = mkd c R 24 n q d (fun j => yo c j < y)) → ZX m_X4_mark 103 [some (zr 21), some (zr 24), some (zi n), some (zi q), some (zi d), some (zi (lay c q)), some (zi (max 0 ((xo c q) - d))), some (zi (min ((cW c) - 1) ((xo c q) + d))), some (zi (max 0 ((yo c q) - d))), some (zi (min ((cH c) - 1) ((yo c q) + d))), some (zi y), none] [] (wr c R1) (gU (fun R1 => R1 = mkd c R 24 n q d (fun _ => True)) c) := by
    refine fun it => Nat.strongRecOn it (fun it ih103 => ?_)
    intro y R1 hn103 hi103
    obtain ⟨y0, y1, y2⟩ := hi103
    refine zx_go (pc1 := 107) (l1 := [some (zr 21), some (zr 24), some (zi n), some (zi q), some (zi d), some (zi (lay c q)), some (zi (max 0 ((xo c q) - d))), some (zi (min ((cW c) - 1) ((xo c q) + d))), some (zi (max 0 ((yo c q) - d))), some (zi (min ((cH c) - 1) ((yo c q) + d))), some (zi y), none]) (st1 := [zi (min ((cH c) - 1) ((yo c q) + d)), zi y]) (w1 := wr c R1) g_X4_mark 2 _ _ _ _ rfl ?_
    refine zx_cmp g_X4_mark rfl (by omega) (by omega) (fun (h107 : (min ((cH c) - 1) ((yo c q) + d)) < y) => ?_) (fun (h107 : ¬ ((min ((cH c) - 1) ((yo c q) + d)) < y)) => ?_)
    · refine zx_vret g_X4_mark rfl ?_
      refine gU_i ?_
      rw [y2]
      unfold mkd
      refine ch_congr fun b j => ?_
      constructor
      · rintro ⟨z0, z1, z2, z3, z4⟩
        exact ⟨z0, z1, z2, z3, trivial⟩
      · rintro ⟨z0, z1, z2, z3, z4⟩
        have gj := place_geo hg z1 z2
        refine ⟨z0, z1, z2, z3, ?_⟩
        unfold nr at z3
        omega
    · refine zx_go (pc1 := 114) (l1 := [some (zr 21), some (zr 24), some (zi n), some (zi q), some (zi d), some (zi (lay c q)), some (zi (max 0 ((xo c q) - d))), some (zi (min ((cW c) - 1) ((xo c q) + d))), some (zi (max 0 ((yo c q) - d))), some (zi (min ((cH c) - 1) ((yo c q) + d))), some (zi y), some (zi (max 0 ((xo c q) - d)))]) (st1 := []) (w1 := wr c R1) g_X4_mark 2 _ _ _ _ rfl ?_
      have lp114 : ∀ (it : Nat) (x : Int) (R2 : zI), (it : Int) = min (cW c - 1) (xo c q + d) + 1 - x → (max 0 (xo c q - d) ≤ x ∧ x ≤ min (cW c - 1) (xo c q + d) + 1 ∧ R2 = mkd c R 24 n q d (fun j => yo c j < y ∨ (yo c j = y ∧ xo c j < x))) → ZX m_X4_mark 114 [some (zr 21), some (zr 24), some (zi n), some (zi q), some (zi d), some (zi (lay c q)), some (zi (max 0 ((xo c q) - d))), some (zi (min ((cW c) - 1) ((xo c q) + d))), some (zi (max 0 ((yo c q) - d))), some (zi (min ((cH c) - 1) ((yo c q) + d))), some (zi y), some (zi x)] [] (wr c R2) (gU (fun R1 => R1 = mkd c R 24 n q d (fun _ => True)) c) := by
        refine fun it => Nat.strongRecOn it (fun it ih114 => ?_)
        intro x R2 hn114 hi114
        obtain ⟨x0, x1, x2⟩ := hi114
        refine zx_go (pc1 := 118) (l1 := [some (zr 21), some (zr 24), some (zi n), some (zi q), some (zi d), some (zi (lay c q)), some (zi (max 0 ((xo c q) - d))), some (zi (min ((cW c) - 1) ((xo c q) + d))), some (zi (max 0 ((yo c q) - d))), some (zi (min ((cH c) - 1) ((yo c q) + d))), some (zi y), some (zi x)]) (st1 := [zi (min ((cW c) - 1) ((xo c q) + d)), zi x]) (w1 := wr c R2) g_X4_mark 2 _ _ _ _ rfl ?_
        refine zx_cmp g_X4_mark rfl (by omega) (by omega) (fun (h118 : (min ((cW c) - 1) ((xo c q) + d)) < x) => ?_) (fun (h118 : ¬ ((min ((cW c) - 1) ((xo c q) + d)) < x)) => ?_)
        · refine zx_go (pc1 := 103) (l1 := [some (zr 21), some (zr 24), some (zi n), some (zi q), some (zi d), some (zi (lay c q)), some (zi (max 0 ((xo c q) - d))), some (zi (min ((cW c) - 1) ((xo c q) + d))), some (zi (max 0 ((yo c q) - d))), some (zi (min ((cH c) - 1) ((yo c q) + d))), some (zi (y + 1)), some (zi x)]) (st1 := []) (w1 := wr c R2) g_X4_mark 2 _ _ _ _ rfl ?_
          refine ih103 (Int.toNat (min (cH c - 1) (yo c q + d) + 1 - (y + 1))) (by omega) (y + 1) R2 (by omega) ?_
          refine ⟨by omega, by omega, ?_⟩
          rw [x2]
          unfold mkd
          refine ch_congr fun b j => ?_
          constructor
          · rintro ⟨z0, z1, z2, z3, z4⟩
            exact ⟨z0, z1, z2, z3, by omega⟩
          · rintro ⟨z0, z1, z2, z3, z4⟩
            have gj := place_geo hg z1 z2
            refine ⟨z0, z1, z2, z3, ?_⟩
            unfold nr at z3
            omega
        · have gp := pl_geo hg (z := lay c q) (x := x) (y := y) (by omega) (by omega) (by omega) (by omega) (by omega) (by omega)
          refine zx_go (pc1 := 132) (l1 := [some (zr 21), some (zr 24), some (zi n), some (zi q), some (zi d), some (zi (lay c q)), some (zi (max 0 ((xo c q) - d))), some (zi (min ((cW c) - 1) ((xo c q) + d))), some (zi (max 0 ((yo c q) - d))), some (zi (min ((cH c) - 1) ((yo c q) + d))), some (zi y), some (zi x)]) (st1 := [zi y, zi x, zi (lay c q), zr 2, zr 24]) (w1 := wr c R2) g_X4_mark 6 _ _ _ _ rfl ?_
          refine zx_cvF (As := [zi (lay c q), zi x, zi y]) (rest := [zr 24]) g_X4_mark rfl g_X2_placeAt rfl rfl (Nat.le_of_ble_eq_true rfl) (Nat.le_of_ble_eq_true rfl) rfl (by decide) (s_placeAt (lay c q) x y) ?_
          refine zx_go (pc1 := 136) (l1 := [some (zr 21), some (zr 24), some (zi n), some (zi q), some (zi d), some (zi (lay c q)), some (zi (max 0 ((xo c q) - d))), some (zi (min ((cW c) - 1) ((xo c q) + d))), some (zi (max 0 ((yo c q) - d))), some (zi (min ((cH c) - 1) ((yo c q) + d))), some (zi y), some (zi x)]) (st1 := [zi (pl c (lay c q) x y), zr 24, zi (pl c (lay c q) x y), zr 24]) (w1 := wr c R2) g_X4_mark 1 _ _ _ _ rfl ?_
          refine gz_iald g_X4_mark rfl (n := cS c) rfl (by decide) rfl (by have := hg.S; omega) (by omega) (by omega) ?_
          refine zx_go (pc1 := 140) (l1 := [some (zr 21), some (zr 24), some (zi n), some (zi q), some (zi d), some (zi (lay c q)), some (zi (max 0 ((xo c q) - d))), some (zi (min ((cW c) - 1) ((xo c q) + d))), some (zi (max 0 ((yo c q) - d))), some (zi (min ((cH c) - 1) ((yo c q) + d))), some (zi y), some (zi x)]) (st1 := [zi (zshl 1 n), zi (R2 24 (pl c (lay c q) x y)), zi (pl c (lay c q) x y), zr 24]) (w1 := wr c R2) g_X4_mark 3 _ _ _ _ rfl ?_
          refine zx_go (pc1 := 141) (l1 := [some (zr 21), some (zr 24), some (zi n), some (zi q), some (zi d), some (zi (lay c q)), some (zi (max 0 ((xo c q) - d))), some (zi (min ((cW c) - 1) ((xo c q) + d))), some (zi (max 0 ((yo c q) - d))), some (zi (min ((cH c) - 1) ((yo c q) + d))), some (zi y), some (zi x)]) (st1 := [zi (zor (R2 24 (pl c (lay c q) x y)) (zshl 1 n)), zi (pl c (lay c q) x y), zr 24]) (w1 := wr c R2) g_X4_mark 1 _ _ _ _ rfl ?_
          refine gz_iast g_X4_mark rfl (n := cS c) rfl (by decide) (by refine ⟨?_, ?_, ?_, ?_, ?_⟩ <;> simp) (by have := hg.S; omega) (by omega) (by omega) ?_
          refine zx_go (pc1 := 114) (l1 := [some (zr 21), some (zr 24), some (zi n), some (zi q), some (zi d), some (zi (lay c q)), some (zi (max 0 ((xo c q) - d))), some (zi (min ((cW c) - 1) ((xo c q) + d))), some (zi (max 0 ((yo c q) - d))), some (zi (min ((cH c) - 1) ((yo c q) + d))), some (zi y), some (zi (x + 1))]) (st1 := []) (w1 := wr c (zU R2 24 (pl c (lay c q) x y) (zor (R2 24 (pl c (lay c q) x y)) (zshl 1 n)))) g_X4_mark 2 _ _ _ _ rfl ?_
          refine ih114 (Int.toNat (min (cW c - 1) (xo c q + d) + 1 - (x + 1))) (by omega) (x + 1) (zU R2 24 (pl c (lay c q) x y) (zor (R2 24 (pl c (lay c q) x y)) (zshl 1 n))) (by omega) ?_
          refine ⟨by omega, by omega, ?_⟩
          rw [x2]
          unfold mkd
          refine ch_step ?_ fun b j => ?_
          · rw [ch_f]
            rintro ⟨-, -, -, -, z⟩
            omega
          · constructor
            · rintro ⟨z0, z1, z2, z3, z4⟩
              have gj := place_geo hg z1 z2
              by_cases e : yo c j = y ∧ xo c j = x
              · refine .inr ⟨z0, ?_⟩
                rw [← gj.2.2.2.2.2.2, e.1, e.2, z3.1]
              · exact .inl ⟨z0, z1, z2, z3, by omega⟩
            · rintro (⟨z0, z1, z2, z3, z4⟩ | ⟨z0, z1⟩)
              · exact ⟨z0, z1, z2, z3, by omega⟩
              · subst z1
                refine ⟨z0, gp.1, gp.2.1, ?_, by omega⟩
                unfold nr
                omega
      refine lp114 (Int.toNat (min (cW c - 1) (xo c q + d) + 1 - (max 0 ((xo c q) - d)))) (max 0 ((xo c q) - d)) R1 (by omega) ?_
      refine ⟨by omega, by omega, ?_⟩
      rw [y2]
      unfold mkd
      refine ch_congr fun b j => ?_
      constructor
      · rintro ⟨z0, z1, z2, z3, z4⟩
        exact ⟨z0, z1, z2, z3, .inl z4⟩
      · rintro ⟨z0, z1, z2, z3, z4⟩
        have gj := place_geo hg z1 z2
        refine ⟨z0, z1, z2, z3, ?_⟩
        unfold nr at z3
        omega
  refine lp103 (Int.toNat (min (cH c - 1) (yo c q + d) + 1 - (max 0 ((yo c q) - d)))) (max 0 ((yo c q) - d)) R (by omega) ?_
  refine ⟨by omega, by omega, ?_⟩
  unfold mkd
  refine (ch_none fun b j z => ?_).symm
  obtain ⟨-, z1, z2, ⟨z3, z4⟩, z5⟩ := z
  have gj := place_geo hg z1 z2
  omega
end
