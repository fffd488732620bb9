section
-- ===== PART A: goes FIRST, ahead of the names: the tables' words, and 'selects' of the private methods out of them =====
/-- a private method of a class that the tables say can be made, by its rows of tables_1 -/
def lw_okq (q : MethodName × Nat) : Prop := (q.1.cls ≠ "java/lang/invoke/MethodHandle" ∧ q.1.cls ≠ "java/lang/invoke/VarHandle") ∧ Cond.instantiable q.1.cls q.2 ∈ tables_1 ∧ Cond.privateMethod q.1 ∈ tables_1 ∧ Cond.instanceMethod q.1 ∈ tables_1
theorem lw_p0 : lw_okq (⟨"BogTown$Sheet", "isOfAnotherLane", "(I)Z"⟩, 4) := ⟨⟨by decide +kernel, by decide +kernel⟩, List.mem_of_getElem? (i := 232) (by decide +kernel), List.mem_of_getElem? (i := 303) (by decide +kernel), List.mem_of_getElem? (i := 304) (by decide +kernel)⟩
theorem lw_p1 : lw_okq (⟨"BogTown", "failed", "(I)I"⟩, 11) := ⟨⟨by decide +kernel, by decide +kernel⟩, List.mem_of_getElem? (i := 15) (by decide +kernel), List.mem_of_getElem? (i := 307) (by decide +kernel), List.mem_of_getElem? (i := 308) (by decide +kernel)⟩
theorem lw_p2 : lw_okq (⟨"BogTown$Sheet", "hasCells", "(II)Z"⟩, 4) := ⟨⟨by decide +kernel, by decide +kernel⟩, List.mem_of_getElem? (i := 232) (by decide +kernel), List.mem_of_getElem? (i := 311) (by decide +kernel), List.mem_of_getElem? (i := 312) (by decide +kernel)⟩
theorem lw_p3 : lw_okq (⟨"BogTown$Town", "build", "(LBogTown$Sheet;II)V"⟩, 3) := ⟨⟨by decide +kernel, by decide +kernel⟩, List.mem_of_getElem? (i := 23) (by decide +kernel), List.mem_of_getElem? (i := 321) (by decide +kernel), List.mem_of_getElem? (i := 322) (by decide +kernel)⟩
theorem lw_p4 : lw_okq (⟨"BogTown$Guests", "leave", "()V"⟩, 6) := ⟨⟨by decide +kernel, by decide +kernel⟩, List.mem_of_getElem? (i := 82) (by decide +kernel), List.mem_of_getElem? (i := 328) (by decide +kernel), List.mem_of_getElem? (i := 329) (by decide +kernel)⟩
theorem lw_p5 : lw_okq (⟨"BogTown", "forget", "()V"⟩, 11) := ⟨⟨by decide +kernel, by decide +kernel⟩, List.mem_of_getElem? (i := 15) (by decide +kernel), List.mem_of_getElem? (i := 332) (by decide +kernel), List.mem_of_getElem? (i := 333) (by decide +kernel)⟩
theorem lw_p6 : lw_okq (⟨"BogTown$Town", "has", "(I)Z"⟩, 3) := ⟨⟨by decide +kernel, by decide +kernel⟩, List.mem_of_getElem? (i := 23) (by decide +kernel), List.mem_of_getElem? (i := 340) (by decide +kernel), List.mem_of_getElem? (i := 341) (by decide +kernel)⟩
theorem lw_p7 : lw_okq (⟨"BogTown$Guests", "enter", "(IIII)V"⟩, 6) := ⟨⟨by decide +kernel, by decide +kernel⟩, List.mem_of_getElem? (i := 82) (by decide +kernel), List.mem_of_getElem? (i := 351) (by decide +kernel), List.mem_of_getElem? (i := 352) (by decide +kernel)⟩
theorem lw_p8 : lw_okq (⟨"BogTown$Guests", "has", "(I)Z"⟩, 6) := ⟨⟨by decide +kernel, by decide +kernel⟩, List.mem_of_getElem? (i := 82) (by decide +kernel), List.mem_of_getElem? (i := 359) (by decide +kernel), List.mem_of_getElem? (i := 360) (by decide +kernel)⟩
theorem lw_p9 : lw_okq (⟨"BogTown$Guests", "haveBeds", "([I)Z"⟩, 6) := ⟨⟨by decide +kernel, by decide +kernel⟩, List.mem_of_getElem? (i := 82) (by decide +kernel), List.mem_of_getElem? (i := 367) (by decide +kernel), List.mem_of_getElem? (i := 368) (by decide +kernel)⟩
theorem lw_p10 : lw_okq (⟨"BogTown$Guests", "sleepers", "([III)I"⟩, 6) := ⟨⟨by decide +kernel, by decide +kernel⟩, List.mem_of_getElem? (i := 82) (by decide +kernel), List.mem_of_getElem? (i := 372) (by decide +kernel), List.mem_of_getElem? (i := 373) (by decide +kernel)⟩
theorem lw_p11 : lw_okq (⟨"BogTown$Guests", "isThere", "(II)Z"⟩, 6) := ⟨⟨by decide +kernel, by decide +kernel⟩, List.mem_of_getElem? (i := 82) (by decide +kernel), List.mem_of_getElem? (i := 376) (by decide +kernel), List.mem_of_getElem? (i := 377) (by decide +kernel)⟩
theorem lw_p12 : lw_okq (⟨"BogTown", "asItIs", "()LBogTown$Nights;"⟩, 11) := ⟨⟨by decide +kernel, by decide +kernel⟩, List.mem_of_getElem? (i := 15) (by decide +kernel), List.mem_of_getElem? (i := 387) (by decide +kernel), List.mem_of_getElem? (i := 388) (by decide +kernel)⟩
theorem lw_p13 : lw_okq (⟨"BogTown$Nights", "pass", "([II)V"⟩, 7) := ⟨⟨by decide +kernel, by decide +kernel⟩, List.mem_of_getElem? (i := 141) (by decide +kernel), List.mem_of_getElem? (i := 391) (by decide +kernel), List.mem_of_getElem? (i := 392) (by decide +kernel)⟩
theorem lw_p14 : lw_okq (⟨"BogTown$Nights", "begin", "([I)V"⟩, 7) := ⟨⟨by decide +kernel, by decide +kernel⟩, List.mem_of_getElem? (i := 141) (by decide +kernel), List.mem_of_getElem? (i := 395) (by decide +kernel), List.mem_of_getElem? (i := 396) (by decide +kernel)⟩
theorem lw_p15 : lw_okq (⟨"BogTown$Nights", "passNight", "([III)V"⟩, 7) := ⟨⟨by decide +kernel, by decide +kernel⟩, List.mem_of_getElem? (i := 141) (by decide +kernel), List.mem_of_getElem? (i := 399) (by decide +kernel), List.mem_of_getElem? (i := 400) (by decide +kernel)⟩
def lw_privs_1 : List (MethodName × Nat) := [(⟨"BogTown$Sheet", "isOfAnotherLane", "(I)Z"⟩, 4), (⟨"BogTown", "failed", "(I)I"⟩, 11), (⟨"BogTown$Sheet", "hasCells", "(II)Z"⟩, 4), (⟨"BogTown$Town", "build", "(LBogTown$Sheet;II)V"⟩, 3), (⟨"BogTown$Guests", "leave", "()V"⟩, 6), (⟨"BogTown", "forget", "()V"⟩, 11), (⟨"BogTown$Town", "has", "(I)Z"⟩, 3), (⟨"BogTown$Guests", "enter", "(IIII)V"⟩, 6), (⟨"BogTown$Guests", "has", "(I)Z"⟩, 6), (⟨"BogTown$Guests", "haveBeds", "([I)Z"⟩, 6), (⟨"BogTown$Guests", "sleepers", "([III)I"⟩, 6), (⟨"BogTown$Guests", "isThere", "(II)Z"⟩, 6), (⟨"BogTown", "asItIs", "()LBogTown$Nights;"⟩, 11), (⟨"BogTown$Nights", "pass", "([II)V"⟩, 7), (⟨"BogTown$Nights", "begin", "([I)V"⟩, 7), (⟨"BogTown$Nights", "passNight", "([III)V"⟩, 7)]
theorem lw_r1 : ∀ q ∈ lw_privs_1, lw_okq q := List.forall_mem_cons.mpr ⟨lw_p0, List.forall_mem_cons.mpr ⟨lw_p1, List.forall_mem_cons.mpr ⟨lw_p2, List.forall_mem_cons.mpr ⟨lw_p3, List.forall_mem_cons.mpr ⟨lw_p4, List.forall_mem_cons.mpr ⟨lw_p5, List.forall_mem_cons.mpr ⟨lw_p6, List.forall_mem_cons.mpr ⟨lw_p7, List.forall_mem_cons.mpr ⟨lw_p8, List.forall_mem_cons.mpr ⟨lw_p9, List.forall_mem_cons.mpr ⟨lw_p10, List.forall_mem_cons.mpr ⟨lw_p11, List.forall_mem_cons.mpr ⟨lw_p12, List.forall_mem_cons.mpr ⟨lw_p13, List.forall_mem_cons.mpr ⟨lw_p14, List.forall_mem_cons.mpr ⟨lw_p15, fun _ h => absurd h List.not_mem_nil⟩⟩⟩⟩⟩⟩⟩⟩⟩⟩⟩⟩⟩⟩⟩⟩
theorem lw_p16 : lw_okq (⟨"BogTown$Nights", "weigh", "([II)V"⟩, 7) := ⟨⟨by decide +kernel, by decide +kernel⟩, List.mem_of_getElem? (i := 141) (by decide +kernel), List.mem_of_getElem? (i := 403) (by decide +kernel), List.mem_of_getElem? (i := 404) (by decide +kernel)⟩
theorem lw_p17 : lw_okq (⟨"BogTown$Nights", "press", "(I)V"⟩, 7) := ⟨⟨by decide +kernel, by decide +kernel⟩, List.mem_of_getElem? (i := 141) (by decide +kernel), List.mem_of_getElem? (i := 409) (by decide +kernel), List.mem_of_getElem? (i := 410) (by decide +kernel)⟩
theorem lw_p18 : lw_okq (⟨"BogTown$House", "pressedBy", "(IZ)I"⟩, 5) := ⟨⟨by decide +kernel, by decide +kernel⟩, List.mem_of_getElem? (i := 30) (by decide +kernel), List.mem_of_getElem? (i := 413) (by decide +kernel), List.mem_of_getElem? (i := 414) (by decide +kernel)⟩
theorem lw_p19 : lw_okq (⟨"BogTown$House", "comesUp", "(ZZ)I"⟩, 5) := ⟨⟨by decide +kernel, by decide +kernel⟩, List.mem_of_getElem? (i := 30) (by decide +kernel), List.mem_of_getElem? (i := 417) (by decide +kernel), List.mem_of_getElem? (i := 418) (by decide +kernel)⟩
theorem lw_p20 : lw_okq (⟨"BogTown$Nights", "depthAt", "(II)I"⟩, 7) := ⟨⟨by decide +kernel, by decide +kernel⟩, List.mem_of_getElem? (i := 141) (by decide +kernel), List.mem_of_getElem? (i := 421) (by decide +kernel), List.mem_of_getElem? (i := 422) (by decide +kernel)⟩
theorem lw_p21 : lw_okq (⟨"BogTown$Nights", "canStep", "(II)Z"⟩, 7) := ⟨⟨by decide +kernel, by decide +kernel⟩, List.mem_of_getElem? (i := 141) (by decide +kernel), List.mem_of_getElem? (i := 429) (by decide +kernel), List.mem_of_getElem? (i := 430) (by decide +kernel)⟩
theorem lw_p22 : lw_okq (⟨"BogTown$Nights", "planksAt", "(I)I"⟩, 7) := ⟨⟨by decide +kernel, by decide +kernel⟩, List.mem_of_getElem? (i := 141) (by decide +kernel), List.mem_of_getElem? (i := 437) (by decide +kernel), List.mem_of_getElem? (i := 438) (by decide +kernel)⟩
theorem lw_p23 : lw_okq (⟨"BogTown$Nights", "isUnderAt", "(II)Z"⟩, 7) := ⟨⟨by decide +kernel, by decide +kernel⟩, List.mem_of_getElem? (i := 141) (by decide +kernel), List.mem_of_getElem? (i := 446) (by decide +kernel), List.mem_of_getElem? (i := 447) (by decide +kernel)⟩
theorem lw_p24 : lw_okq (⟨"BogTown$Lodgings", "search", "(I)V"⟩, 7) := ⟨⟨by decide +kernel, by decide +kernel⟩, List.mem_of_getElem? (i := 169) (by decide +kernel), List.mem_of_getElem? (i := 463) (by decide +kernel), List.mem_of_getElem? (i := 464) (by decide +kernel)⟩
theorem lw_p25 : lw_okq (⟨"BogTown$Lodgings", "layOut", "(II)V"⟩, 7) := ⟨⟨by decide +kernel, by decide +kernel⟩, List.mem_of_getElem? (i := 169) (by decide +kernel), List.mem_of_getElem? (i := 470) (by decide +kernel), List.mem_of_getElem? (i := 471) (by decide +kernel)⟩
theorem lw_p26 : lw_okq (⟨"BogTown$Lodgings", "keepIfFewer", "(I)V"⟩, 7) := ⟨⟨by decide +kernel, by decide +kernel⟩, List.mem_of_getElem? (i := 169) (by decide +kernel), List.mem_of_getElem? (i := 475) (by decide +kernel), List.mem_of_getElem? (i := 476) (by decide +kernel)⟩
theorem lw_p27 : lw_okq (⟨"BogTown$Nights", "planksBelow", "([III)I"⟩, 7) := ⟨⟨by decide +kernel, by decide +kernel⟩, List.mem_of_getElem? (i := 141) (by decide +kernel), List.mem_of_getElem? (i := 479) (by decide +kernel), List.mem_of_getElem? (i := 480) (by decide +kernel)⟩
theorem lw_p28 : lw_okq (⟨"BogTown$Lodgings", "planksFor", "(I)I"⟩, 7) := ⟨⟨by decide +kernel, by decide +kernel⟩, List.mem_of_getElem? (i := 169) (by decide +kernel), List.mem_of_getElem? (i := 484) (by decide +kernel), List.mem_of_getElem? (i := 485) (by decide +kernel)⟩
theorem lw_p29 : lw_okq (⟨"BogTown$Lodgings", "houseFor", "(II)I"⟩, 7) := ⟨⟨by decide +kernel, by decide +kernel⟩, List.mem_of_getElem? (i := 169) (by decide +kernel), List.mem_of_getElem? (i := 488) (by decide +kernel), List.mem_of_getElem? (i := 489) (by decide +kernel)⟩
theorem lw_p30 : lw_okq (⟨"BogTown", "nightsAbove", "(II)I"⟩, 11) := ⟨⟨by decide +kernel, by decide +kernel⟩, List.mem_of_getElem? (i := 15) (by decide +kernel), List.mem_of_getElem? (i := 496) (by decide +kernel), List.mem_of_getElem? (i := 497) (by decide +kernel)⟩
theorem lw_p31 : lw_okq (⟨"BogTown$Nights", "stepped", "(II)I"⟩, 7) := ⟨⟨by decide +kernel, by decide +kernel⟩, List.mem_of_getElem? (i := 141) (by decide +kernel), List.mem_of_getElem? (i := 504) (by decide +kernel), List.mem_of_getElem? (i := 505) (by decide +kernel)⟩
def lw_privs_2 : List (MethodName × Nat) := [(⟨"BogTown$Nights", "weigh", "([II)V"⟩, 7), (⟨"BogTown$Nights", "press", "(I)V"⟩, 7), (⟨"BogTown$House", "pressedBy", "(IZ)I"⟩, 5), (⟨"BogTown$House", "comesUp", "(ZZ)I"⟩, 5), (⟨"BogTown$Nights", "depthAt", "(II)I"⟩, 7), (⟨"BogTown$Nights", "canStep", "(II)Z"⟩, 7), (⟨"BogTown$Nights", "planksAt", "(I)I"⟩, 7), (⟨"BogTown$Nights", "isUnderAt", "(II)Z"⟩, 7), (⟨"BogTown$Lodgings", "search", "(I)V"⟩, 7), (⟨"BogTown$Lodgings", "layOut", "(II)V"⟩, 7), (⟨"BogTown$Lodgings", "keepIfFewer", "(I)V"⟩, 7), (⟨"BogTown$Nights", "planksBelow", "([III)I"⟩, 7), (⟨"BogTown$Lodgings", "planksFor", "(I)I"⟩, 7), (⟨"BogTown$Lodgings", "houseFor", "(II)I"⟩, 7), (⟨"BogTown", "nightsAbove", "(II)I"⟩, 11), (⟨"BogTown$Nights", "stepped", "(II)I"⟩, 7)]
theorem lw_r2 : ∀ q ∈ lw_privs_2, lw_okq q := List.forall_mem_cons.mpr ⟨lw_p16, List.forall_mem_cons.mpr ⟨lw_p17, List.forall_mem_cons.mpr ⟨lw_p18, List.forall_mem_cons.mpr ⟨lw_p19, List.forall_mem_cons.mpr ⟨lw_p20, List.forall_mem_cons.mpr ⟨lw_p21, List.forall_mem_cons.mpr ⟨lw_p22, List.forall_mem_cons.mpr ⟨lw_p23, List.forall_mem_cons.mpr ⟨lw_p24, List.forall_mem_cons.mpr ⟨lw_p25, List.forall_mem_cons.mpr ⟨lw_p26, List.forall_mem_cons.mpr ⟨lw_p27, List.forall_mem_cons.mpr ⟨lw_p28, List.forall_mem_cons.mpr ⟨lw_p29, List.forall_mem_cons.mpr ⟨lw_p30, List.forall_mem_cons.mpr ⟨lw_p31, fun _ h => absurd h List.not_mem_nil⟩⟩⟩⟩⟩⟩⟩⟩⟩⟩⟩⟩⟩⟩⟩⟩
theorem lw_p32 : lw_okq (⟨"BogTown$Readings", "add", "(III)I"⟩, 4) := ⟨⟨by decide +kernel, by decide +kernel⟩, List.mem_of_getElem? (i := 121) (by decide +kernel), List.mem_of_getElem? (i := 513) (by decide +kernel), List.mem_of_getElem? (i := 514) (by decide +kernel)⟩
theorem lw_p33 : lw_okq (⟨"BogTown$Readings", "areSo", "(LBogTown$Nights;)Z"⟩, 4) := ⟨⟨by decide +kernel, by decide +kernel⟩, List.mem_of_getElem? (i := 121) (by decide +kernel), List.mem_of_getElem? (i := 525) (by decide +kernel), List.mem_of_getElem? (i := 526) (by decide +kernel)⟩
theorem lw_p34 : lw_okq (⟨"BogTown", "couldSleep", "(II)Z"⟩, 11) := ⟨⟨by decide +kernel, by decide +kernel⟩, List.mem_of_getElem? (i := 15) (by decide +kernel), List.mem_of_getElem? (i := 534) (by decide +kernel), List.mem_of_getElem? (i := 535) (by decide +kernel)⟩
theorem lw_p35 : lw_okq (⟨"BogTown$Readings", "lastDawn", "()I"⟩, 4) := ⟨⟨by decide +kernel, by decide +kernel⟩, List.mem_of_getElem? (i := 121) (by decide +kernel), List.mem_of_getElem? (i := 538) (by decide +kernel), List.mem_of_getElem? (i := 539) (by decide +kernel)⟩
theorem lw_p36 : lw_okq (⟨"BogTown$Rents", "run", "()V"⟩, 8) := ⟨⟨by decide +kernel, by decide +kernel⟩, List.mem_of_getElem? (i := 198) (by decide +kernel), List.mem_of_getElem? (i := 560) (by decide +kernel), List.mem_of_getElem? (i := 561) (by decide +kernel)⟩
theorem lw_p37 : lw_okq (⟨"BogTown$Rents", "keep", "(I)V"⟩, 8) := ⟨⟨by decide +kernel, by decide +kernel⟩, List.mem_of_getElem? (i := 198) (by decide +kernel), List.mem_of_getElem? (i := 565) (by decide +kernel), List.mem_of_getElem? (i := 566) (by decide +kernel)⟩
theorem lw_p38 : lw_okq (⟨"BogTown$Rents", "moves", "(I)Z"⟩, 8) := ⟨⟨by decide +kernel, by decide +kernel⟩, List.mem_of_getElem? (i := 198) (by decide +kernel), List.mem_of_getElem? (i := 569) (by decide +kernel), List.mem_of_getElem? (i := 570) (by decide +kernel)⟩
theorem lw_p39 : lw_okq (⟨"BogTown$Rents", "howDeep", "(I)I"⟩, 8) := ⟨⟨by decide +kernel, by decide +kernel⟩, List.mem_of_getElem? (i := 198) (by decide +kernel), List.mem_of_getElem? (i := 573) (by decide +kernel), List.mem_of_getElem? (i := 574) (by decide +kernel)⟩
theorem lw_p40 : lw_okq (⟨"BogTown$Rents", "houseBehind", "(II)I"⟩, 8) := ⟨⟨by decide +kernel, by decide +kernel⟩, List.mem_of_getElem? (i := 198) (by decide +kernel), List.mem_of_getElem? (i := 585) (by decide +kernel), List.mem_of_getElem? (i := 586) (by decide +kernel)⟩
theorem lw_p41 : lw_okq (⟨"BogTown$Sheet", "layRow", "(II)V"⟩, 4) := ⟨⟨by decide +kernel, by decide +kernel⟩, List.mem_of_getElem? (i := 232) (by decide +kernel), List.mem_of_getElem? (i := 596) (by decide +kernel), List.mem_of_getElem? (i := 597) (by decide +kernel)⟩
theorem lw_p42 : lw_okq (⟨"BogTown$Sheet", "cut", "(I)I"⟩, 4) := ⟨⟨by decide +kernel, by decide +kernel⟩, List.mem_of_getElem? (i := 232) (by decide +kernel), List.mem_of_getElem? (i := 608) (by decide +kernel), List.mem_of_getElem? (i := 609) (by decide +kernel)⟩
theorem lw_p43 : lw_okq (⟨"BogTown", "toldAsPiled", "(LBogTown$House;)I"⟩, 11) := ⟨⟨by decide +kernel, by decide +kernel⟩, List.mem_of_getElem? (i := 15) (by decide +kernel), List.mem_of_getElem? (i := 625) (by decide +kernel), List.mem_of_getElem? (i := 626) (by decide +kernel)⟩
theorem lw_p44 : lw_okq (⟨"BogTown", "leaveTrace", "(I)V"⟩, 11) := ⟨⟨by decide +kernel, by decide +kernel⟩, List.mem_of_getElem? (i := 15) (by decide +kernel), List.mem_of_getElem? (i := 629) (by decide +kernel), List.mem_of_getElem? (i := 630) (by decide +kernel)⟩
theorem lw_p45 : lw_okq (⟨"BogTown", "toldAsInn", "(LBogTown$House;)I"⟩, 11) := ⟨⟨by decide +kernel, by decide +kernel⟩, List.mem_of_getElem? (i := 15) (by decide +kernel), List.mem_of_getElem? (i := 633) (by decide +kernel), List.mem_of_getElem? (i := 634) (by decide +kernel)⟩
theorem lw_p46 : lw_okq (⟨"BogTown", "toldAsHouse", "(LBogTown$House;)I"⟩, 11) := ⟨⟨by decide +kernel, by decide +kernel⟩, List.mem_of_getElem? (i := 15) (by decide +kernel), List.mem_of_getElem? (i := 637) (by decide +kernel), List.mem_of_getElem? (i := 638) (by decide +kernel)⟩
theorem lw_p47 : lw_okq (⟨"BogTownModel", "refused", "(I)I"⟩, 36) := ⟨⟨by decide +kernel, by decide +kernel⟩, List.mem_of_getElem? (i := 661) (by decide +kernel), List.mem_of_getElem? (i := 788) (by decide +kernel), List.mem_of_getElem? (i := 789) (by decide +kernel)⟩
def lw_privs_3 : List (MethodName × Nat) := [(⟨"BogTown$Readings", "add", "(III)I"⟩, 4), (⟨"BogTown$Readings", "areSo", "(LBogTown$Nights;)Z"⟩, 4), (⟨"BogTown", "couldSleep", "(II)Z"⟩, 11), (⟨"BogTown$Readings", "lastDawn", "()I"⟩, 4), (⟨"BogTown$Rents", "run", "()V"⟩, 8), (⟨"BogTown$Rents", "keep", "(I)V"⟩, 8), (⟨"BogTown$Rents", "moves", "(I)Z"⟩, 8), (⟨"BogTown$Rents", "howDeep", "(I)I"⟩, 8), (⟨"BogTown$Rents", "houseBehind", "(II)I"⟩, 8), (⟨"BogTown$Sheet", "layRow", "(II)V"⟩, 4), (⟨"BogTown$Sheet", "cut", "(I)I"⟩, 4), (⟨"BogTown", "toldAsPiled", "(LBogTown$House;)I"⟩, 11), (⟨"BogTown", "leaveTrace", "(I)V"⟩, 11), (⟨"BogTown", "toldAsInn", "(LBogTown$House;)I"⟩, 11), (⟨"BogTown", "toldAsHouse", "(LBogTown$House;)I"⟩, 11), (⟨"BogTownModel", "refused", "(I)I"⟩, 36)]
theorem lw_r3 : ∀ q ∈ lw_privs_3, lw_okq q := List.forall_mem_cons.mpr ⟨lw_p32, List.forall_mem_cons.mpr ⟨lw_p33, List.forall_mem_cons.mpr ⟨lw_p34, List.forall_mem_cons.mpr ⟨lw_p35, List.forall_mem_cons.mpr ⟨lw_p36, List.forall_mem_cons.mpr ⟨lw_p37, List.forall_mem_cons.mpr ⟨lw_p38, List.forall_mem_cons.mpr ⟨lw_p39, List.forall_mem_cons.mpr ⟨lw_p40, List.forall_mem_cons.mpr ⟨lw_p41, List.forall_mem_cons.mpr ⟨lw_p42, List.forall_mem_cons.mpr ⟨lw_p43, List.forall_mem_cons.mpr ⟨lw_p44, List.forall_mem_cons.mpr ⟨lw_p45, List.forall_mem_cons.mpr ⟨lw_p46, List.forall_mem_cons.mpr ⟨lw_p47, fun _ h => absurd h List.not_mem_nil⟩⟩⟩⟩⟩⟩⟩⟩⟩⟩⟩⟩⟩⟩⟩⟩
theorem lw_p48 : lw_okq (⟨"BogTownModel", "failed", "(I)I"⟩, 36) := ⟨⟨by decide +kernel, by decide +kernel⟩, List.mem_of_getElem? (i := 661) (by decide +kernel), List.mem_of_getElem? (i := 793) (by decide +kernel), List.mem_of_getElem? (i := 794) (by decide +kernel)⟩
theorem lw_p49 : lw_okq (⟨"BogTownModel", "readsTown", "(II)Z"⟩, 36) := ⟨⟨by decide +kernel, by decide +kernel⟩, List.mem_of_getElem? (i := 661) (by decide +kernel), List.mem_of_getElem? (i := 800) (by decide +kernel), List.mem_of_getElem? (i := 801) (by decide +kernel)⟩
theorem lw_p50 : lw_okq (⟨"BogTownModel", "codeAt", "(II)I"⟩, 36) := ⟨⟨by decide +kernel, by decide +kernel⟩, List.mem_of_getElem? (i := 661) (by decide +kernel), List.mem_of_getElem? (i := 804) (by decide +kernel), List.mem_of_getElem? (i := 805) (by decide +kernel)⟩
theorem lw_p51 : lw_okq (⟨"BogTownModel", "figure", "(III)I"⟩, 36) := ⟨⟨by decide +kernel, by decide +kernel⟩, List.mem_of_getElem? (i := 661) (by decide +kernel), List.mem_of_getElem? (i := 808) (by decide +kernel), List.mem_of_getElem? (i := 809) (by decide +kernel)⟩
theorem lw_p52 : lw_okq (⟨"BogTownModel", "readsHouse", "(II)Z"⟩, 36) := ⟨⟨by decide +kernel, by decide +kernel⟩, List.mem_of_getElem? (i := 661) (by decide +kernel), List.mem_of_getElem? (i := 813) (by decide +kernel), List.mem_of_getElem? (i := 814) (by decide +kernel)⟩
theorem lw_p53 : lw_okq (⟨"BogTownModel", "noHouse", "(I)Z"⟩, 36) := ⟨⟨by decide +kernel, by decide +kernel⟩, List.mem_of_getElem? (i := 661) (by decide +kernel), List.mem_of_getElem? (i := 821) (by decide +kernel), List.mem_of_getElem? (i := 822) (by decide +kernel)⟩
theorem lw_p54 : lw_okq (⟨"BogTownModel", "noGuest", "(I)Z"⟩, 36) := ⟨⟨by decide +kernel, by decide +kernel⟩, List.mem_of_getElem? (i := 661) (by decide +kernel), List.mem_of_getElem? (i := 835) (by decide +kernel), List.mem_of_getElem? (i := 836) (by decide +kernel)⟩
theorem lw_p55 : lw_okq (⟨"BogTownModel", "hasBed", "(II)Z"⟩, 36) := ⟨⟨by decide +kernel, by decide +kernel⟩, List.mem_of_getElem? (i := 661) (by decide +kernel), List.mem_of_getElem? (i := 843) (by decide +kernel), List.mem_of_getElem? (i := 844) (by decide +kernel)⟩
theorem lw_p56 : lw_okq (⟨"BogTownModel", "sleepers", "(III)I"⟩, 36) := ⟨⟨by decide +kernel, by decide +kernel⟩, List.mem_of_getElem? (i := 661) (by decide +kernel), List.mem_of_getElem? (i := 847) (by decide +kernel), List.mem_of_getElem? (i := 848) (by decide +kernel)⟩
theorem lw_p57 : lw_okq (⟨"BogTownModel", "isThere", "(II)Z"⟩, 36) := ⟨⟨by decide +kernel, by decide +kernel⟩, List.mem_of_getElem? (i := 661) (by decide +kernel), List.mem_of_getElem? (i := 851) (by decide +kernel), List.mem_of_getElem? (i := 852) (by decide +kernel)⟩
theorem lw_p58 : lw_okq (⟨"BogTownModel", "goTo", "(I)V"⟩, 36) := ⟨⟨by decide +kernel, by decide +kernel⟩, List.mem_of_getElem? (i := 661) (by decide +kernel), List.mem_of_getElem? (i := 863) (by decide +kernel), List.mem_of_getElem? (i := 864) (by decide +kernel)⟩
theorem lw_p59 : lw_okq (⟨"BogTownModel", "beginPlain", "()V"⟩, 36) := ⟨⟨by decide +kernel, by decide +kernel⟩, List.mem_of_getElem? (i := 661) (by decide +kernel), List.mem_of_getElem? (i := 867) (by decide +kernel), List.mem_of_getElem? (i := 868) (by decide +kernel)⟩
theorem lw_p60 : lw_okq (⟨"BogTownModel", "begin", "()V"⟩, 36) := ⟨⟨by decide +kernel, by decide +kernel⟩, List.mem_of_getElem? (i := 661) (by decide +kernel), List.mem_of_getElem? (i := 871) (by decide +kernel), List.mem_of_getElem? (i := 872) (by decide +kernel)⟩
theorem lw_p61 : lw_okq (⟨"BogTownModel", "goNight", "(I)V"⟩, 36) := ⟨⟨by decide +kernel, by decide +kernel⟩, List.mem_of_getElem? (i := 661) (by decide +kernel), List.mem_of_getElem? (i := 875) (by decide +kernel), List.mem_of_getElem? (i := 876) (by decide +kernel)⟩
theorem lw_p62 : lw_okq (⟨"BogTownModel", "press", "(II)V"⟩, 36) := ⟨⟨by decide +kernel, by decide +kernel⟩, List.mem_of_getElem? (i := 661) (by decide +kernel), List.mem_of_getElem? (i := 879) (by decide +kernel), List.mem_of_getElem? (i := 880) (by decide +kernel)⟩
theorem lw_p63 : lw_okq (⟨"BogTownModel", "isPiled", "(I)Z"⟩, 36) := ⟨⟨by decide +kernel, by decide +kernel⟩, List.mem_of_getElem? (i := 661) (by decide +kernel), List.mem_of_getElem? (i := 883) (by decide +kernel), List.mem_of_getElem? (i := 884) (by decide +kernel)⟩
def lw_privs_4 : List (MethodName × Nat) := [(⟨"BogTownModel", "failed", "(I)I"⟩, 36), (⟨"BogTownModel", "readsTown", "(II)Z"⟩, 36), (⟨"BogTownModel", "codeAt", "(II)I"⟩, 36), (⟨"BogTownModel", "figure", "(III)I"⟩, 36), (⟨"BogTownModel", "readsHouse", "(II)Z"⟩, 36), (⟨"BogTownModel", "noHouse", "(I)Z"⟩, 36), (⟨"BogTownModel", "noGuest", "(I)Z"⟩, 36), (⟨"BogTownModel", "hasBed", "(II)Z"⟩, 36), (⟨"BogTownModel", "sleepers", "(III)I"⟩, 36), (⟨"BogTownModel", "isThere", "(II)Z"⟩, 36), (⟨"BogTownModel", "goTo", "(I)V"⟩, 36), (⟨"BogTownModel", "beginPlain", "()V"⟩, 36), (⟨"BogTownModel", "begin", "()V"⟩, 36), (⟨"BogTownModel", "goNight", "(I)V"⟩, 36), (⟨"BogTownModel", "press", "(II)V"⟩, 36), (⟨"BogTownModel", "isPiled", "(I)Z"⟩, 36)]
theorem lw_r4 : ∀ q ∈ lw_privs_4, lw_okq q := List.forall_mem_cons.mpr ⟨lw_p48, List.forall_mem_cons.mpr ⟨lw_p49, List.forall_mem_cons.mpr ⟨lw_p50, List.forall_mem_cons.mpr ⟨lw_p51, List.forall_mem_cons.mpr ⟨lw_p52, List.forall_mem_cons.mpr ⟨lw_p53, List.forall_mem_cons.mpr ⟨lw_p54, List.forall_mem_cons.mpr ⟨lw_p55, List.forall_mem_cons.mpr ⟨lw_p56, List.forall_mem_cons.mpr ⟨lw_p57, List.forall_mem_cons.mpr ⟨lw_p58, List.forall_mem_cons.mpr ⟨lw_p59, List.forall_mem_cons.mpr ⟨lw_p60, List.forall_mem_cons.mpr ⟨lw_p61, List.forall_mem_cons.mpr ⟨lw_p62, List.forall_mem_cons.mpr ⟨lw_p63, fun _ h => absurd h List.not_mem_nil⟩⟩⟩⟩⟩⟩⟩⟩⟩⟩⟩⟩⟩⟩⟩⟩
theorem lw_p64 : lw_okq (⟨"BogTownModel", "isStep", "(I)Z"⟩, 36) := ⟨⟨by decide +kernel, by decide +kernel⟩, List.mem_of_getElem? (i := 661) (by decide +kernel), List.mem_of_getElem? (i := 891) (by decide +kernel), List.mem_of_getElem? (i := 892) (by decide +kernel)⟩
theorem lw_p65 : lw_okq (⟨"BogTownModel", "allPlanks", "()I"⟩, 36) := ⟨⟨by decide +kernel, by decide +kernel⟩, List.mem_of_getElem? (i := 661) (by decide +kernel), List.mem_of_getElem? (i := 903) (by decide +kernel), List.mem_of_getElem? (i := 904) (by decide +kernel)⟩
theorem lw_p66 : lw_okq (⟨"BogTownModel", "planksNow", "()I"⟩, 36) := ⟨⟨by decide +kernel, by decide +kernel⟩, List.mem_of_getElem? (i := 661) (by decide +kernel), List.mem_of_getElem? (i := 907) (by decide +kernel), List.mem_of_getElem? (i := 908) (by decide +kernel)⟩
theorem lw_p67 : lw_okq (⟨"BogTownModel", "isUnder", "(I)Z"⟩, 36) := ⟨⟨by decide +kernel, by decide +kernel⟩, List.mem_of_getElem? (i := 661) (by decide +kernel), List.mem_of_getElem? (i := 915) (by decide +kernel), List.mem_of_getElem? (i := 916) (by decide +kernel)⟩
theorem lw_p68 : lw_okq (⟨"BogTownModel", "keepHouses", "()V"⟩, 36) := ⟨⟨by decide +kernel, by decide +kernel⟩, List.mem_of_getElem? (i := 661) (by decide +kernel), List.mem_of_getElem? (i := 935) (by decide +kernel), List.mem_of_getElem? (i := 936) (by decide +kernel)⟩
theorem lw_p69 : lw_okq (⟨"BogTownModel", "haveBeds", "()Z"⟩, 36) := ⟨⟨by decide +kernel, by decide +kernel⟩, List.mem_of_getElem? (i := 661) (by decide +kernel), List.mem_of_getElem? (i := 939) (by decide +kernel), List.mem_of_getElem? (i := 940) (by decide +kernel)⟩
theorem lw_p70 : lw_okq (⟨"BogTownModel", "takeHouses", "()V"⟩, 36) := ⟨⟨by decide +kernel, by decide +kernel⟩, List.mem_of_getElem? (i := 661) (by decide +kernel), List.mem_of_getElem? (i := 943) (by decide +kernel), List.mem_of_getElem? (i := 944) (by decide +kernel)⟩
theorem lw_p71 : lw_okq (⟨"BogTownModel", "areSo", "()Z"⟩, 36) := ⟨⟨by decide +kernel, by decide +kernel⟩, List.mem_of_getElem? (i := 661) (by decide +kernel), List.mem_of_getElem? (i := 969) (by decide +kernel), List.mem_of_getElem? (i := 970) (by decide +kernel)⟩
theorem lw_p72 : lw_okq (⟨"BogTownModel", "goRound", "()Z"⟩, 36) := ⟨⟨by decide +kernel, by decide +kernel⟩, List.mem_of_getElem? (i := 661) (by decide +kernel), List.mem_of_getElem? (i := 988) (by decide +kernel), List.mem_of_getElem? (i := 989) (by decide +kernel)⟩
theorem lw_p73 : lw_okq (⟨"BogTownModel", "moves", "(I)Z"⟩, 36) := ⟨⟨by decide +kernel, by decide +kernel⟩, List.mem_of_getElem? (i := 661) (by decide +kernel), List.mem_of_getElem? (i := 992) (by decide +kernel), List.mem_of_getElem? (i := 993) (by decide +kernel)⟩
theorem lw_p74 : lw_okq (⟨"BogTownModel", "sleepsDeep", "(I)I"⟩, 36) := ⟨⟨by decide +kernel, by decide +kernel⟩, List.mem_of_getElem? (i := 661) (by decide +kernel), List.mem_of_getElem? (i := 996) (by decide +kernel), List.mem_of_getElem? (i := 997) (by decide +kernel)⟩
theorem lw_p75 : lw_okq (⟨"BogTownModel", "noCell", "(II)I"⟩, 36) := ⟨⟨by decide +kernel, by decide +kernel⟩, List.mem_of_getElem? (i := 661) (by decide +kernel), List.mem_of_getElem? (i := 1016) (by decide +kernel), List.mem_of_getElem? (i := 1017) (by decide +kernel)⟩
theorem lw_p76 : lw_okq (⟨"BogTownModel", "failedLong", "(I)J"⟩, 36) := ⟨⟨by decide +kernel, by decide +kernel⟩, List.mem_of_getElem? (i := 661) (by decide +kernel), List.mem_of_getElem? (i := 1024) (by decide +kernel), List.mem_of_getElem? (i := 1025) (by decide +kernel)⟩
theorem lw_p77 : lw_okq (⟨"BogTownModel", "traced", "(I)V"⟩, 36) := ⟨⟨by decide +kernel, by decide +kernel⟩, List.mem_of_getElem? (i := 661) (by decide +kernel), List.mem_of_getElem? (i := 1036) (by decide +kernel), List.mem_of_getElem? (i := 1037) (by decide +kernel)⟩
def lw_privs_5 : List (MethodName × Nat) := [(⟨"BogTownModel", "isStep", "(I)Z"⟩, 36), (⟨"BogTownModel", "allPlanks", "()I"⟩, 36), (⟨"BogTownModel", "planksNow", "()I"⟩, 36), (⟨"BogTownModel", "isUnder", "(I)Z"⟩, 36), (⟨"BogTownModel", "keepHouses", "()V"⟩, 36), (⟨"BogTownModel", "haveBeds", "()Z"⟩, 36), (⟨"BogTownModel", "takeHouses", "()V"⟩, 36), (⟨"BogTownModel", "areSo", "()Z"⟩, 36), (⟨"BogTownModel", "goRound", "()Z"⟩, 36), (⟨"BogTownModel", "moves", "(I)Z"⟩, 36), (⟨"BogTownModel", "sleepsDeep", "(I)I"⟩, 36), (⟨"BogTownModel", "noCell", "(II)I"⟩, 36), (⟨"BogTownModel", "failedLong", "(I)J"⟩, 36), (⟨"BogTownModel", "traced", "(I)V"⟩, 36)]
theorem lw_r5 : ∀ q ∈ lw_privs_5, lw_okq q := List.forall_mem_cons.mpr ⟨lw_p64, List.forall_mem_cons.mpr ⟨lw_p65, List.forall_mem_cons.mpr ⟨lw_p66, List.forall_mem_cons.mpr ⟨lw_p67, List.forall_mem_cons.mpr ⟨lw_p68, List.forall_mem_cons.mpr ⟨lw_p69, List.forall_mem_cons.mpr ⟨lw_p70, List.forall_mem_cons.mpr ⟨lw_p71, List.forall_mem_cons.mpr ⟨lw_p72, List.forall_mem_cons.mpr ⟨lw_p73, List.forall_mem_cons.mpr ⟨lw_p74, List.forall_mem_cons.mpr ⟨lw_p75, List.forall_mem_cons.mpr ⟨lw_p76, List.forall_mem_cons.mpr ⟨lw_p77, fun _ h => absurd h List.not_mem_nil⟩⟩⟩⟩⟩⟩⟩⟩⟩⟩⟩⟩⟩⟩
def lw_privs : List (MethodName × Nat) := lw_privs_1 ++ (lw_privs_2 ++ (lw_privs_3 ++ (lw_privs_4 ++ (lw_privs_5))))
def lw_tbl : List Cond := k2_sels lw_privs ++ tables_1
theorem lw_privs_ok : ∀ q ∈ lw_privs, lw_okq q := by
  show ∀ q ∈ lw_privs_1 ++ (lw_privs_2 ++ (lw_privs_3 ++ (lw_privs_4 ++ (lw_privs_5)))), lw_okq q
  exact List.forall_mem_append.mpr ⟨lw_r1, List.forall_mem_append.mpr ⟨lw_r2, List.forall_mem_append.mpr ⟨lw_r3, List.forall_mem_append.mpr ⟨lw_r4, lw_r5⟩⟩⟩⟩
end
section
def RX0 : String := "BogTown$Guests"
def TX0 : u_T := fun k => match k with
  | 0 => ("BogTown$Guests", "town", "LBogTown$Town;", true)
  | 1 => ("BogTown$Guests", "weight", "[I", true)
  | 2 => ("BogTown$Guests", "first", "[I", true)
  | 3 => ("BogTown$Guests", "last", "[I", true)
  | 4 => ("BogTown$Guests", "where", "[I", true)
  | _ => ("BogTown$Guests", "count", "I", false)
def tyX0 : Nat → FieldType := fun k => match k with
  | 0 => .object "BogTown$Town"
  | 1 => .array .int
  | 2 => .array .int
  | 3 => .array .int
  | 4 => .array .int
  | _ => .int
theorem nmX0 : ∀ a, a < 6 → ∀ b, b < 6 → a ≠ b → (TX0 a).2.1 ≠ (TX0 b).2.1 := by decide +kernel
theorem tyX0_ok : ∀ k, k < 6 → parseFieldDescriptor (TX0 k).2.2.1 = some (tyX0 k) := by decide +kernel
abbrev cX0_init : ByteArray := prog_2_method_1_code
def yX0_init : MethodName := ⟨RX0, "<init>", "(LBogTown$Town;)V"⟩
abbrev cX0_has : ByteArray := prog_2_method_2_code
def yX0_has : MethodName := ⟨RX0, "has", "(I)Z"⟩
abbrev cX0_leave : ByteArray := prog_2_method_3_code
def yX0_leave : MethodName := ⟨RX0, "leave", "()V"⟩
abbrev cX0_enter : ByteArray := prog_2_method_4_code
def yX0_enter : MethodName := ⟨RX0, "enter", "(IIII)V"⟩
abbrev cX0_isThere : ByteArray := prog_2_method_5_code
def yX0_isThere : MethodName := ⟨RX0, "isThere", "(II)Z"⟩
abbrev cX0_haveBeds : ByteArray := prog_2_method_6_code
def yX0_haveBeds : MethodName := ⟨RX0, "haveBeds", "([I)Z"⟩
abbrev cX0_sleepers : ByteArray := prog_2_method_7_code
def yX0_sleepers : MethodName := ⟨RX0, "sleepers", "([III)I"⟩
def RX1 : String := "BogTown$House"
def TX1 : u_T := fun k => match k with
  | 0 => ("BogTown$House", "kind", "I", false)
  | 1 => ("BogTown$House", "beds", "I", false)
  | 2 => ("BogTown$House", "gives", "I", false)
  | 3 => ("BogTown$House", "rises", "I", false)
  | _ => ("BogTown$House", "door", "I", false)
def tyX1 : Nat → FieldType := fun k => match k with
  | 0 => .int
  | 1 => .int
  | 2 => .int
  | 3 => .int
  | _ => .int
theorem nmX1 : ∀ a, a < 5 → ∀ b, b < 5 → a ≠ b → (TX1 a).2.1 ≠ (TX1 b).2.1 := by decide +kernel
theorem tyX1_ok : ∀ k, k < 5 → parseFieldDescriptor (TX1 k).2.2.1 = some (tyX1 k) := by decide +kernel
abbrev cX1_init : ByteArray := prog_3_method_1_code
def yX1_init : MethodName := ⟨RX1, "<init>", "()V"⟩
abbrev cX1_pressedBy : ByteArray := prog_3_method_2_code
def yX1_pressedBy : MethodName := ⟨RX1, "pressedBy", "(IZ)I"⟩
abbrev cX1_comesUp : ByteArray := prog_3_method_3_code
def yX1_comesUp : MethodName := ⟨RX1, "comesUp", "(ZZ)I"⟩
def RX2 : String := "BogTown$Lodgings"
def TX2 : u_T := fun k => match k with
  | 0 => ("BogTown$Lodgings", "town", "LBogTown$Town;", true)
  | 1 => ("BogTown$Lodgings", "guests", "LBogTown$Guests;", true)
  | 2 => ("BogTown$Lodgings", "nights", "LBogTown$Nights;", true)
  | 3 => ("BogTown$Lodgings", "row", "[I", true)
  | 4 => ("BogTown$Lodgings", "fewest", "[I", true)
  | 5 => ("BogTown$Lodgings", "best", "[I", true)
  | _ => ("BogTown$Lodgings", "known", "I", false)
def tyX2 : Nat → FieldType := fun k => match k with
  | 0 => .object "BogTown$Town"
  | 1 => .object "BogTown$Guests"
  | 2 => .object "BogTown$Nights"
  | 3 => .array .int
  | 4 => .array .int
  | 5 => .array .int
  | _ => .int
theorem nmX2 : ∀ a, a < 7 → ∀ b, b < 7 → a ≠ b → (TX2 a).2.1 ≠ (TX2 b).2.1 := by decide +kernel
theorem tyX2_ok : ∀ k, k < 7 → parseFieldDescriptor (TX2 k).2.2.1 = some (tyX2 k) := by decide +kernel
abbrev cX2_init : ByteArray := prog_4_method_1_code
def yX2_init : MethodName := ⟨RX2, "<init>", "(LBogTown$Town;LBogTown$Guests;LBogTown$Nights;)V"⟩
abbrev cX2_planksFor : ByteArray := prog_4_method_2_code
def yX2_planksFor : MethodName := ⟨RX2, "planksFor", "(I)I"⟩
abbrev cX2_houseFor : ByteArray := prog_4_method_3_code
def yX2_houseFor : MethodName := ⟨RX2, "houseFor", "(II)I"⟩
abbrev cX2_search : ByteArray := prog_4_method_4_code
def yX2_search : MethodName := ⟨RX2, "search", "(I)V"⟩
abbrev cX2_layOut : ByteArray := prog_4_method_5_code
def yX2_layOut : MethodName := ⟨RX2, "layOut", "(II)V"⟩
abbrev cX2_keepIfFewer : ByteArray := prog_4_method_6_code
def yX2_keepIfFewer : MethodName := ⟨RX2, "keepIfFewer", "(I)V"⟩
def RX3 : String := "BogTown$Nights"
def TX3 : u_T := fun k => match k with
  | 0 => ("BogTown$Nights", "town", "LBogTown$Town;", true)
  | 1 => ("BogTown$Nights", "guests", "LBogTown$Guests;", true)
  | 2 => ("BogTown$Nights", "depths", "[I", true)
  | 3 => ("BogTown$Nights", "weights", "[I", true)
  | 4 => ("BogTown$Nights", "pressed", "[I", true)
  | 5 => ("BogTown$Nights", "change", "[I", true)
  | _ => ("BogTown$Nights", "turns", "J", false)
def tyX3 : Nat → FieldType := fun k => match k with
  | 0 => .object "BogTown$Town"
  | 1 => .object "BogTown$Guests"
  | 2 => .array .int
  | 3 => .array .int
  | 4 => .array .int
  | 5 => .array .int
  | _ => .long
theorem nmX3 : ∀ a, a < 7 → ∀ b, b < 7 → a ≠ b → (TX3 a).2.1 ≠ (TX3 b).2.1 := by decide +kernel
theorem tyX3_ok : ∀ k, k < 7 → parseFieldDescriptor (TX3 k).2.2.1 = some (tyX3 k) := by decide +kernel
abbrev cX3_init : ByteArray := prog_5_method_1_code
def yX3_init : MethodName := ⟨RX3, "<init>", "(LBogTown$Town;LBogTown$Guests;)V"⟩
abbrev cX3_pass : ByteArray := prog_5_method_2_code
def yX3_pass : MethodName := ⟨RX3, "pass", "([II)V"⟩
abbrev cX3_planksBelow : ByteArray := prog_5_method_3_code
def yX3_planksBelow : MethodName := ⟨RX3, "planksBelow", "([III)I"⟩
abbrev cX3_begin : ByteArray := prog_5_method_4_code
def yX3_begin : MethodName := ⟨RX3, "begin", "([I)V"⟩
abbrev cX3_passNight : ByteArray := prog_5_method_5_code
def yX3_passNight : MethodName := ⟨RX3, "passNight", "([III)V"⟩
abbrev cX3_weigh : ByteArray := prog_5_method_6_code
def yX3_weigh : MethodName := ⟨RX3, "weigh", "([II)V"⟩
abbrev cX3_press : ByteArray := prog_5_method_7_code
def yX3_press : MethodName := ⟨RX3, "press", "(I)V"⟩
abbrev cX3_depthAt : ByteArray := prog_5_method_8_code
def yX3_depthAt : MethodName := ⟨RX3, "depthAt", "(II)I"⟩
abbrev cX3_isUnderAt : ByteArray := prog_5_method_9_code
def yX3_isUnderAt : MethodName := ⟨RX3, "isUnderAt", "(II)Z"⟩
abbrev cX3_canStep : ByteArray := prog_5_method_10_code
def yX3_canStep : MethodName := ⟨RX3, "canStep", "(II)Z"⟩
abbrev cX3_planksAt : ByteArray := prog_5_method_11_code
def yX3_planksAt : MethodName := ⟨RX3, "planksAt", "(I)I"⟩
abbrev cX3_stepped : ByteArray := prog_5_method_12_code
def yX3_stepped : MethodName := ⟨RX3, "stepped", "(II)I"⟩
def RX4 : String := "BogTown$Readings"
def TX4 : u_T := fun k => match k with
  | 0 => ("BogTown$Readings", "house", "[I", true)
  | 1 => ("BogTown$Readings", "dawn", "[I", true)
  | 2 => ("BogTown$Readings", "read", "[I", true)
  | _ => ("BogTown$Readings", "count", "I", false)
def tyX4 : Nat → FieldType := fun k => match k with
  | 0 => .array .int
  | 1 => .array .int
  | 2 => .array .int
  | _ => .int
theorem nmX4 : ∀ a, a < 4 → ∀ b, b < 4 → a ≠ b → (TX4 a).2.1 ≠ (TX4 b).2.1 := by decide +kernel
theorem tyX4_ok : ∀ k, k < 4 → parseFieldDescriptor (TX4 k).2.2.1 = some (tyX4 k) := by decide +kernel
abbrev cX4_init : ByteArray := prog_6_method_1_code
def yX4_init : MethodName := ⟨RX4, "<init>", "()V"⟩
abbrev cX4_add : ByteArray := prog_6_method_2_code
def yX4_add : MethodName := ⟨RX4, "add", "(III)I"⟩
abbrev cX4_lastDawn : ByteArray := prog_6_method_3_code
def yX4_lastDawn : MethodName := ⟨RX4, "lastDawn", "()I"⟩
abbrev cX4_areSo : ByteArray := prog_6_method_4_code
def yX4_areSo : MethodName := ⟨RX4, "areSo", "(LBogTown$Nights;)Z"⟩
def RX5 : String := "BogTown$Rents"
def TX5 : u_T := fun k => match k with
  | 0 => ("BogTown$Rents", "town", "LBogTown$Town;", true)
  | 1 => ("BogTown$Rents", "guests", "LBogTown$Guests;", true)
  | 2 => ("BogTown$Rents", "nights", "LBogTown$Nights;", true)
  | 3 => ("BogTown$Rents", "row", "[I", true)
  | 4 => ("BogTown$Rents", "rows", "[I", true)
  | 5 => ("BogTown$Rents", "lastKept", "I", false)
  | 6 => ("BogTown$Rents", "settled", "I", false)
  | _ => ("BogTown$Rents", "known", "Z", false)
def tyX5 : Nat → FieldType := fun k => match k with
  | 0 => .object "BogTown$Town"
  | 1 => .object "BogTown$Guests"
  | 2 => .object "BogTown$Nights"
  | 3 => .array .int
  | 4 => .array .int
  | 5 => .int
  | 6 => .int
  | _ => .boolean
theorem nmX5 : ∀ a, a < 8 → ∀ b, b < 8 → a ≠ b → (TX5 a).2.1 ≠ (TX5 b).2.1 := by decide +kernel
theorem tyX5_ok : ∀ k, k < 8 → parseFieldDescriptor (TX5 k).2.2.1 = some (tyX5 k) := by decide +kernel
abbrev cX5_init : ByteArray := prog_7_method_1_code
def yX5_init : MethodName := ⟨RX5, "<init>", "(LBogTown$Town;LBogTown$Guests;LBogTown$Nights;)V"⟩
abbrev cX5_houseBehind : ByteArray := prog_7_method_2_code
def yX5_houseBehind : MethodName := ⟨RX5, "houseBehind", "(II)I"⟩
abbrev cX5_run : ByteArray := prog_7_method_3_code
def yX5_run : MethodName := ⟨RX5, "run", "()V"⟩
abbrev cX5_keep : ByteArray := prog_7_method_4_code
def yX5_keep : MethodName := ⟨RX5, "keep", "(I)V"⟩
abbrev cX5_moves : ByteArray := prog_7_method_5_code
def yX5_moves : MethodName := ⟨RX5, "moves", "(I)Z"⟩
abbrev cX5_howDeep : ByteArray := prog_7_method_6_code
def yX5_howDeep : MethodName := ⟨RX5, "howDeep", "(I)I"⟩
def RX6 : String := "BogTown$Sheet"
def TX6 : u_T := fun k => match k with
  | 0 => ("BogTown$Sheet", "cells", "[I", true)
  | 1 => ("BogTown$Sheet", "hasRow", "Z", false)
  | 2 => ("BogTown$Sheet", "lane", "I", false)
  | _ => ("BogTown$Sheet", "size", "I", false)
def tyX6 : Nat → FieldType := fun k => match k with
  | 0 => .array .int
  | 1 => .boolean
  | 2 => .int
  | _ => .int
theorem nmX6 : ∀ a, a < 4 → ∀ b, b < 4 → a ≠ b → (TX6 a).2.1 ≠ (TX6 b).2.1 := by decide +kernel
theorem tyX6_ok : ∀ k, k < 4 → parseFieldDescriptor (TX6 k).2.2.1 = some (tyX6 k) := by decide +kernel
abbrev cX6_init : ByteArray := prog_8_method_1_code
def yX6_init : MethodName := ⟨RX6, "<init>", "()V"⟩
abbrev cX6_layRow : ByteArray := prog_8_method_2_code
def yX6_layRow : MethodName := ⟨RX6, "layRow", "(II)V"⟩
abbrev cX6_isOfAnotherLane : ByteArray := prog_8_method_3_code
def yX6_isOfAnotherLane : MethodName := ⟨RX6, "isOfAnotherLane", "(I)Z"⟩
abbrev cX6_hasCells : ByteArray := prog_8_method_4_code
def yX6_hasCells : MethodName := ⟨RX6, "hasCells", "(II)Z"⟩
abbrev cX6_cut : ByteArray := prog_8_method_5_code
def yX6_cut : MethodName := ⟨RX6, "cut", "(I)I"⟩
def RX7 : String := "BogTown$Town"
def TX7 : u_T := fun k => match k with
  | 0 => ("BogTown$Town", "houses", "[LBogTown$House;", true)
  | 1 => ("BogTown$Town", "count", "I", false)
  | _ => ("BogTown$Town", "step", "I", false)
def tyX7 : Nat → FieldType := fun k => match k with
  | 0 => .array (.object "BogTown$House")
  | 1 => .int
  | _ => .int
theorem nmX7 : ∀ a, a < 3 → ∀ b, b < 3 → a ≠ b → (TX7 a).2.1 ≠ (TX7 b).2.1 := by decide +kernel
theorem tyX7_ok : ∀ k, k < 3 → parseFieldDescriptor (TX7 k).2.2.1 = some (tyX7 k) := by decide +kernel
abbrev cX7_init : ByteArray := prog_9_method_1_code
def yX7_init : MethodName := ⟨RX7, "<init>", "()V"⟩
abbrev cX7_has : ByteArray := prog_9_method_2_code
def yX7_has : MethodName := ⟨RX7, "has", "(I)Z"⟩
abbrev cX7_build : ByteArray := prog_9_method_3_code
def yX7_build : MethodName := ⟨RX7, "build", "(LBogTown$Sheet;II)V"⟩
abbrev cX7_kindOf : ByteArray := prog_9_method_4_code
def yX7_kindOf : MethodName := ⟨RX7, "kindOf", "(I)I"⟩
def RX8 : String := "BogTown"
def TX8 : u_T := fun k => match k with
  | 0 => ("BogTown", "town", "LBogTown$Town;", true)
  | 1 => ("BogTown", "guests", "LBogTown$Guests;", true)
  | 2 => ("BogTown", "readings", "LBogTown$Readings;", true)
  | 3 => ("BogTown", "sheets", "[LBogTown$Sheet;", true)
  | 4 => ("BogTown", "nights", "LBogTown$Nights;", true)
  | 5 => ("BogTown", "trial", "LBogTown$Nights;", true)
  | 6 => ("BogTown", "ways", "LBogTown$Lodgings;", true)
  | 7 => ("BogTown", "rents", "LBogTown$Rents;", true)
  | 8 => ("BogTown", "nightsKnown", "Z", false)
  | 9 => ("BogTown", "trace", "I", false)
  | _ => ("BogTown", "fault", "I", false)
def tyX8 : Nat → FieldType := fun k => match k with
  | 0 => .object "BogTown$Town"
  | 1 => .object "BogTown$Guests"
  | 2 => .object "BogTown$Readings"
  | 3 => .array (.object "BogTown$Sheet")
  | 4 => .object "BogTown$Nights"
  | 5 => .object "BogTown$Nights"
  | 6 => .object "BogTown$Lodgings"
  | 7 => .object "BogTown$Rents"
  | 8 => .boolean
  | 9 => .int
  | _ => .int
theorem nmX8 : ∀ a, a < 11 → ∀ b, b < 11 → a ≠ b → (TX8 a).2.1 ≠ (TX8 b).2.1 := by decide +kernel
theorem tyX8_ok : ∀ k, k < 11 → parseFieldDescriptor (TX8 k).2.2.1 = some (tyX8 k) := by decide +kernel
abbrev cX8_init : ByteArray := prog_1_method_1_code
def yX8_init : MethodName := ⟨RX8, "<init>", "()V"⟩
abbrev cX8_town : ByteArray := prog_1_method_2_code
def yX8_town : MethodName := ⟨RX8, "town", "(IIII)I"⟩
abbrev cX8_ofHouse : ByteArray := prog_1_method_3_code
def yX8_ofHouse : MethodName := ⟨RX8, "ofHouse", "(II)I"⟩
abbrev cX8_guest : ByteArray := prog_1_method_4_code
def yX8_guest : MethodName := ⟨RX8, "guest", "(III)I"⟩
abbrev cX8_ofGuest : ByteArray := prog_1_method_5_code
def yX8_ofGuest : MethodName := ⟨RX8, "ofGuest", "(II)I"⟩
abbrev cX8_lodge : ByteArray := prog_1_method_6_code
def yX8_lodge : MethodName := ⟨RX8, "lodge", "(II)I"⟩
abbrev cX8_depth : ByteArray := prog_1_method_7_code
def yX8_depth : MethodName := ⟨RX8, "depth", "(II)I"⟩
abbrev cX8_reach : ByteArray := prog_1_method_8_code
def yX8_reach : MethodName := ⟨RX8, "reach", "(II)I"⟩
abbrev cX8_planks : ByteArray := prog_1_method_9_code
def yX8_planks : MethodName := ⟨RX8, "planks", "(I)I"⟩
abbrev cX8_under : ByteArray := prog_1_method_10_code
def yX8_under : MethodName := ⟨RX8, "under", "(I)I"⟩
abbrev cX8_open : ByteArray := prog_1_method_11_code
def yX8_open : MethodName := ⟨RX8, "open", "(II)J"⟩
abbrev cX8_lodgings : ByteArray := prog_1_method_12_code
def yX8_lodgings : MethodName := ⟨RX8, "lodgings", "(II)I"⟩
abbrev cX8_feast : ByteArray := prog_1_method_13_code
def yX8_feast : MethodName := ⟨RX8, "feast", "(III)I"⟩
abbrev cX8_way : ByteArray := prog_1_method_14_code
def yX8_way : MethodName := ⟨RX8, "way", "(III)I"⟩
abbrev cX8_reading : ByteArray := prog_1_method_15_code
def yX8_reading : MethodName := ⟨RX8, "reading", "(III)I"⟩
abbrev cX8_back : ByteArray := prog_1_method_16_code
def yX8_back : MethodName := ⟨RX8, "back", "(I)I"⟩
abbrev cX8_right : ByteArray := prog_1_method_17_code
def yX8_right : MethodName := ⟨RX8, "right", "()I"⟩
abbrev cX8_unseen : ByteArray := prog_1_method_18_code
def yX8_unseen : MethodName := ⟨RX8, "unseen", "(I)I"⟩
abbrev cX8_piles : ByteArray := prog_1_method_19_code
def yX8_piles : MethodName := ⟨RX8, "piles", "(I)I"⟩
abbrev cX8_settles : ByteArray := prog_1_method_20_code
def yX8_settles : MethodName := ⟨RX8, "settles", "()I"⟩
abbrev cX8_after : ByteArray := prog_1_method_21_code
def yX8_after : MethodName := ⟨RX8, "after", "(II)I"⟩
abbrev cX8_sheet : ByteArray := prog_1_method_22_code
def yX8_sheet : MethodName := ⟨RX8, "sheet", "(III)I"⟩
abbrev cX8_lose : ByteArray := prog_1_method_23_code
def yX8_lose : MethodName := ⟨RX8, "lose", "(I)I"⟩
abbrev cX8_put : ByteArray := prog_1_method_24_code
def yX8_put : MethodName := ⟨RX8, "put", "(III)I"⟩
abbrev cX8_cell : ByteArray := prog_1_method_25_code
def yX8_cell : MethodName := ⟨RX8, "cell", "(III)J"⟩
abbrev cX8_copy : ByteArray := prog_1_method_26_code
def yX8_copy : MethodName := ⟨RX8, "copy", "(IIIII)I"⟩
abbrev cX8_tell : ByteArray := prog_1_method_27_code
def yX8_tell : MethodName := ⟨RX8, "tell", "(I)I"⟩
abbrev cX8_knock : ByteArray := prog_1_method_28_code
def yX8_knock : MethodName := ⟨RX8, "knock", "(I)I"⟩
abbrev cX8_as : ByteArray := prog_1_method_29_code
def yX8_as : MethodName := ⟨RX8, "as", "(II)I"⟩
abbrev cX8_trace : ByteArray := prog_1_method_30_code
def yX8_trace : MethodName := ⟨RX8, "trace", "()I"⟩
abbrev cX8_fault : ByteArray := prog_1_method_31_code
def yX8_fault : MethodName := ⟨RX8, "fault", "()I"⟩
abbrev cX8_many : ByteArray := prog_1_method_32_code
def yX8_many : MethodName := ⟨RX8, "many", "(I)I"⟩
abbrev cX8_isWithin : ByteArray := prog_1_method_33_code
def yX8_isWithin : MethodName := ⟨RX8, "isWithin", "(III)Z"⟩
abbrev cX8_isSheet : ByteArray := prog_1_method_34_code
def yX8_isSheet : MethodName := ⟨RX8, "isSheet", "(I)Z"⟩
abbrev cX8_isLane : ByteArray := prog_1_method_35_code
def yX8_isLane : MethodName := ⟨RX8, "isLane", "(I)Z"⟩
abbrev cX8_isNight : ByteArray := prog_1_method_36_code
def yX8_isNight : MethodName := ⟨RX8, "isNight", "(I)Z"⟩
abbrev cX8_isDawn : ByteArray := prog_1_method_37_code
def yX8_isDawn : MethodName := ⟨RX8, "isDawn", "(I)Z"⟩
abbrev cX8_failed : ByteArray := prog_1_method_38_code
def yX8_failed : MethodName := ⟨RX8, "failed", "(I)I"⟩
abbrev cX8_commonDivisor : ByteArray := prog_1_method_39_code
def yX8_commonDivisor : MethodName := ⟨RX8, "commonDivisor", "(II)I"⟩
abbrev cX8_forget : ByteArray := prog_1_method_40_code
def yX8_forget : MethodName := ⟨RX8, "forget", "()V"⟩
abbrev cX8_asItIs : ByteArray := prog_1_method_41_code
def yX8_asItIs : MethodName := ⟨RX8, "asItIs", "()LBogTown$Nights;"⟩
abbrev cX8_nightsAbove : ByteArray := prog_1_method_42_code
def yX8_nightsAbove : MethodName := ⟨RX8, "nightsAbove", "(II)I"⟩
abbrev cX8_couldSleep : ByteArray := prog_1_method_43_code
def yX8_couldSleep : MethodName := ⟨RX8, "couldSleep", "(II)Z"⟩
abbrev cX8_leaveTrace : ByteArray := prog_1_method_44_code
def yX8_leaveTrace : MethodName := ⟨RX8, "leaveTrace", "(I)V"⟩
abbrev cX8_toldAsHouse : ByteArray := prog_1_method_45_code
def yX8_toldAsHouse : MethodName := ⟨RX8, "toldAsHouse", "(LBogTown$House;)I"⟩
abbrev cX8_toldAsInn : ByteArray := prog_1_method_46_code
def yX8_toldAsInn : MethodName := ⟨RX8, "toldAsInn", "(LBogTown$House;)I"⟩
abbrev cX8_toldAsPiled : ByteArray := prog_1_method_47_code
def yX8_toldAsPiled : MethodName := ⟨RX8, "toldAsPiled", "(LBogTown$House;)I"⟩
abbrev cX8_firstFault : ByteArray := prog_1_method_48_code
def yX8_firstFault : MethodName := ⟨RX8, "firstFault", "(LBogTown$Sheet;II)I"⟩
abbrev cX8_goesOn : ByteArray := prog_1_method_49_code
def yX8_goesOn : MethodName := ⟨RX8, "goesOn", "(II)Z"⟩
def RX9 : String := "BogTownModel"
def TX9 : u_T := fun k => match k with
  | 0 => ("BogTownModel", "fault", "I", false)
  | 1 => ("BogTownModel", "houses", "I", false)
  | 2 => ("BogTownModel", "stepNow", "I", false)
  | 3 => ("BogTownModel", "kindOf", "[I", true)
  | 4 => ("BogTownModel", "bedsOf", "[I", true)
  | 5 => ("BogTownModel", "givesOf", "[I", true)
  | 6 => ("BogTownModel", "risesOf", "[I", true)
  | 7 => ("BogTownModel", "doorOf", "[I", true)
  | 8 => ("BogTownModel", "readAt", "I", false)
  | 9 => ("BogTownModel", "readStep", "I", false)
  | 10 => ("BogTownModel", "readHouses", "I", false)
  | 11 => ("BogTownModel", "readKind", "[I", true)
  | 12 => ("BogTownModel", "readOf", "[I", true)
  | 13 => ("BogTownModel", "guests", "I", false)
  | 14 => ("BogTownModel", "weightOf", "[I", true)
  | 15 => ("BogTownModel", "firstOf", "[I", true)
  | 16 => ("BogTownModel", "lastOf", "[I", true)
  | 17 => ("BogTownModel", "houseOf", "[I", true)
  | 18 => ("BogTownModel", "deep", "[I", true)
  | 19 => ("BogTownModel", "pressed", "[I", true)
  | 20 => ("BogTownModel", "slept", "[Z", true)
  | 21 => ("BogTownModel", "oneMoreIn", "I", false)
  | 22 => ("BogTownModel", "oneMore", "I", false)
  | 23 => ("BogTownModel", "oneMoreFrom", "I", false)
  | 24 => ("BogTownModel", "pilesUnder", "I", false)
  | 25 => ("BogTownModel", "wasIn", "[I", true)
  | 26 => ("BogTownModel", "bestRow", "[I", true)
  | 27 => ("BogTownModel", "readings", "I", false)
  | 28 => ("BogTownModel", "readingHouse", "[I", true)
  | 29 => ("BogTownModel", "readingDawn", "[I", true)
  | 30 => ("BogTownModel", "readingTo", "[I", true)
  | 31 => ("BogTownModel", "sheetSize", "[I", true)
  | 32 => ("BogTownModel", "sheetLane", "[I", true)
  | 33 => ("BogTownModel", "sheet", "[I", true)
  | 34 => ("BogTownModel", "hands", "[I", true)
  | _ => ("BogTownModel", "traceNow", "I", false)
def tyX9 : Nat → FieldType := fun k => match k with
  | 0 => .int
  | 1 => .int
  | 2 => .int
  | 3 => .array .int
  | 4 => .array .int
  | 5 => .array .int
  | 6 => .array .int
  | 7 => .array .int
  | 8 => .int
  | 9 => .int
  | 10 => .int
  | 11 => .array .int
  | 12 => .array .int
  | 13 => .int
  | 14 => .array .int
  | 15 => .array .int
  | 16 => .array .int
  | 17 => .array .int
  | 18 => .array .int
  | 19 => .array .int
  | 20 => .array .boolean
  | 21 => .int
  | 22 => .int
  | 23 => .int
  | 24 => .int
  | 25 => .array .int
  | 26 => .array .int
  | 27 => .int
  | 28 => .array .int
  | 29 => .array .int
  | 30 => .array .int
  | 31 => .array .int
  | 32 => .array .int
  | 33 => .array .int
  | 34 => .array .int
  | _ => .int
theorem nmX9 : ∀ a, a < 36 → ∀ b, b < 36 → a ≠ b → (TX9 a).2.1 ≠ (TX9 b).2.1 := by decide +kernel
theorem tyX9_ok : ∀ k, k < 36 → parseFieldDescriptor (TX9 k).2.2.1 = some (tyX9 k) := by decide +kernel
abbrev cX9_init : ByteArray := prog_11_method_1_code
def yX9_init : MethodName := ⟨RX9, "<init>", "()V"⟩
abbrev cX9_in : ByteArray := prog_11_method_2_code
def yX9_in : MethodName := ⟨RX9, "in", "(JJJ)Z"⟩
abbrev cX9_lost : ByteArray := prog_11_method_3_code
def yX9_lost : MethodName := ⟨RX9, "lost", "()J"⟩
abbrev cX9_off : ByteArray := prog_11_method_4_code
def yX9_off : MethodName := ⟨RX9, "off", "(II)I"⟩
abbrev cX9_told : ByteArray := prog_11_method_5_code
def yX9_told : MethodName := ⟨RX9, "told", "(JJI)J"⟩
abbrev cX9_refused : ByteArray := prog_11_method_6_code
def yX9_refused : MethodName := ⟨RX9, "refused", "(I)I"⟩
abbrev cX9_failed : ByteArray := prog_11_method_7_code
def yX9_failed : MethodName := ⟨RX9, "failed", "(I)I"⟩
abbrev cX9_failedLong : ByteArray := prog_11_method_8_code
def yX9_failedLong : MethodName := ⟨RX9, "failedLong", "(I)J"⟩
abbrev cX9_noHouse : ByteArray := prog_11_method_9_code
def yX9_noHouse : MethodName := ⟨RX9, "noHouse", "(I)Z"⟩
abbrev cX9_codeAt : ByteArray := prog_11_method_10_code
def yX9_codeAt : MethodName := ⟨RX9, "codeAt", "(II)I"⟩
abbrev cX9_figure : ByteArray := prog_11_method_11_code
def yX9_figure : MethodName := ⟨RX9, "figure", "(III)I"⟩
abbrev cX9_readsHouse : ByteArray := prog_11_method_12_code
def yX9_readsHouse : MethodName := ⟨RX9, "readsHouse", "(II)Z"⟩
abbrev cX9_readsTown : ByteArray := prog_11_method_13_code
def yX9_readsTown : MethodName := ⟨RX9, "readsTown", "(II)Z"⟩
abbrev cX9_town : ByteArray := prog_11_method_14_code
def yX9_town : MethodName := ⟨RX9, "town", "(IIII)I"⟩
abbrev cX9_ofHouse : ByteArray := prog_11_method_15_code
def yX9_ofHouse : MethodName := ⟨RX9, "ofHouse", "(II)I"⟩
abbrev cX9_noGuest : ByteArray := prog_11_method_16_code
def yX9_noGuest : MethodName := ⟨RX9, "noGuest", "(I)Z"⟩
abbrev cX9_guest : ByteArray := prog_11_method_17_code
def yX9_guest : MethodName := ⟨RX9, "guest", "(III)I"⟩
abbrev cX9_ofGuest : ByteArray := prog_11_method_18_code
def yX9_ofGuest : MethodName := ⟨RX9, "ofGuest", "(II)I"⟩
abbrev cX9_isThere : ByteArray := prog_11_method_19_code
def yX9_isThere : MethodName := ⟨RX9, "isThere", "(II)Z"⟩
abbrev cX9_sleepers : ByteArray := prog_11_method_20_code
def yX9_sleepers : MethodName := ⟨RX9, "sleepers", "(III)I"⟩
abbrev cX9_hasBed : ByteArray := prog_11_method_21_code
def yX9_hasBed : MethodName := ⟨RX9, "hasBed", "(II)Z"⟩
abbrev cX9_lodge : ByteArray := prog_11_method_22_code
def yX9_lodge : MethodName := ⟨RX9, "lodge", "(II)I"⟩
abbrev cX9_begin : ByteArray := prog_11_method_23_code
def yX9_begin : MethodName := ⟨RX9, "begin", "()V"⟩
abbrev cX9_beginPlain : ByteArray := prog_11_method_24_code
def yX9_beginPlain : MethodName := ⟨RX9, "beginPlain", "()V"⟩
abbrev cX9_isPiled : ByteArray := prog_11_method_25_code
def yX9_isPiled : MethodName := ⟨RX9, "isPiled", "(I)Z"⟩
abbrev cX9_press : ByteArray := prog_11_method_26_code
def yX9_press : MethodName := ⟨RX9, "press", "(II)V"⟩
abbrev cX9_goNight : ByteArray := prog_11_method_27_code
def yX9_goNight : MethodName := ⟨RX9, "goNight", "(I)V"⟩
abbrev cX9_goTo : ByteArray := prog_11_method_28_code
def yX9_goTo : MethodName := ⟨RX9, "goTo", "(I)V"⟩
abbrev cX9_isStep : ByteArray := prog_11_method_29_code
def yX9_isStep : MethodName := ⟨RX9, "isStep", "(I)Z"⟩
abbrev cX9_planksNow : ByteArray := prog_11_method_30_code
def yX9_planksNow : MethodName := ⟨RX9, "planksNow", "()I"⟩
abbrev cX9_allPlanks : ByteArray := prog_11_method_31_code
def yX9_allPlanks : MethodName := ⟨RX9, "allPlanks", "()I"⟩
abbrev cX9_isUnder : ByteArray := prog_11_method_32_code
def yX9_isUnder : MethodName := ⟨RX9, "isUnder", "(I)Z"⟩
abbrev cX9_isDawn : ByteArray := prog_11_method_33_code
def yX9_isDawn : MethodName := ⟨RX9, "isDawn", "(I)Z"⟩
abbrev cX9_depth : ByteArray := prog_11_method_34_code
def yX9_depth : MethodName := ⟨RX9, "depth", "(II)I"⟩
abbrev cX9_reach : ByteArray := prog_11_method_35_code
def yX9_reach : MethodName := ⟨RX9, "reach", "(II)I"⟩
abbrev cX9_planks : ByteArray := prog_11_method_36_code
def yX9_planks : MethodName := ⟨RX9, "planks", "(I)I"⟩
abbrev cX9_under : ByteArray := prog_11_method_37_code
def yX9_under : MethodName := ⟨RX9, "under", "(I)I"⟩
abbrev cX9_open : ByteArray := prog_11_method_38_code
def yX9_open : MethodName := ⟨RX9, "open", "(II)J"⟩
abbrev cX9_keepHouses : ByteArray := prog_11_method_39_code
def yX9_keepHouses : MethodName := ⟨RX9, "keepHouses", "()V"⟩
abbrev cX9_takeHouses : ByteArray := prog_11_method_40_code
def yX9_takeHouses : MethodName := ⟨RX9, "takeHouses", "()V"⟩
abbrev cX9_haveBeds : ByteArray := prog_11_method_41_code
def yX9_haveBeds : MethodName := ⟨RX9, "haveBeds", "()Z"⟩
abbrev cX9_lodgings : ByteArray := prog_11_method_42_code
def yX9_lodgings : MethodName := ⟨RX9, "lodgings", "(II)I"⟩
abbrev cX9_feast : ByteArray := prog_11_method_43_code
def yX9_feast : MethodName := ⟨RX9, "feast", "(III)I"⟩
abbrev cX9_way : ByteArray := prog_11_method_44_code
def yX9_way : MethodName := ⟨RX9, "way", "(III)I"⟩
abbrev cX9_reading : ByteArray := prog_11_method_45_code
def yX9_reading : MethodName := ⟨RX9, "reading", "(III)I"⟩
abbrev cX9_back : ByteArray := prog_11_method_46_code
def yX9_back : MethodName := ⟨RX9, "back", "(I)I"⟩
abbrev cX9_areSo : ByteArray := prog_11_method_47_code
def yX9_areSo : MethodName := ⟨RX9, "areSo", "()Z"⟩
abbrev cX9_right : ByteArray := prog_11_method_48_code
def yX9_right : MethodName := ⟨RX9, "right", "()I"⟩
abbrev cX9_unseen : ByteArray := prog_11_method_49_code
def yX9_unseen : MethodName := ⟨RX9, "unseen", "(I)I"⟩
abbrev cX9_bits : ByteArray := prog_11_method_50_code
def yX9_bits : MethodName := ⟨RX9, "bits", "(I)I"⟩
abbrev cX9_piles : ByteArray := prog_11_method_51_code
def yX9_piles : MethodName := ⟨RX9, "piles", "(I)I"⟩
abbrev cX9_sleepsDeep : ByteArray := prog_11_method_52_code
def yX9_sleepsDeep : MethodName := ⟨RX9, "sleepsDeep", "(I)I"⟩
abbrev cX9_moves : ByteArray := prog_11_method_53_code
def yX9_moves : MethodName := ⟨RX9, "moves", "(I)Z"⟩
abbrev cX9_goRound : ByteArray := prog_11_method_54_code
def yX9_goRound : MethodName := ⟨RX9, "goRound", "()Z"⟩
abbrev cX9_settles : ByteArray := prog_11_method_55_code
def yX9_settles : MethodName := ⟨RX9, "settles", "()I"⟩
abbrev cX9_after : ByteArray := prog_11_method_56_code
def yX9_after : MethodName := ⟨RX9, "after", "(II)I"⟩
abbrev cX9_noSheet : ByteArray := prog_11_method_57_code
def yX9_noSheet : MethodName := ⟨RX9, "noSheet", "(I)Z"⟩
abbrev cX9_sheet : ByteArray := prog_11_method_58_code
def yX9_sheet : MethodName := ⟨RX9, "sheet", "(III)I"⟩
abbrev cX9_lose : ByteArray := prog_11_method_59_code
def yX9_lose : MethodName := ⟨RX9, "lose", "(I)I"⟩
abbrev cX9_noCell : ByteArray := prog_11_method_60_code
def yX9_noCell : MethodName := ⟨RX9, "noCell", "(II)I"⟩
abbrev cX9_put : ByteArray := prog_11_method_61_code
def yX9_put : MethodName := ⟨RX9, "put", "(III)I"⟩
abbrev cX9_cell : ByteArray := prog_11_method_62_code
def yX9_cell : MethodName := ⟨RX9, "cell", "(III)J"⟩
abbrev cX9_isBeyond : ByteArray := prog_11_method_63_code
def yX9_isBeyond : MethodName := ⟨RX9, "isBeyond", "(IJI)Z"⟩
abbrev cX9_copy : ByteArray := prog_11_method_64_code
def yX9_copy : MethodName := ⟨RX9, "copy", "(IIIII)I"⟩
abbrev cX9_traced : ByteArray := prog_11_method_65_code
def yX9_traced : MethodName := ⟨RX9, "traced", "(I)V"⟩
abbrev cX9_tell : ByteArray := prog_11_method_66_code
def yX9_tell : MethodName := ⟨RX9, "tell", "(I)I"⟩
abbrev cX9_knock : ByteArray := prog_11_method_67_code
def yX9_knock : MethodName := ⟨RX9, "knock", "(I)I"⟩
abbrev cX9_as : ByteArray := prog_11_method_68_code
def yX9_as : MethodName := ⟨RX9, "as", "(II)I"⟩
abbrev cX9_trace : ByteArray := prog_11_method_69_code
def yX9_trace : MethodName := ⟨RX9, "trace", "()I"⟩
abbrev cX9_fault : ByteArray := prog_11_method_70_code
def yX9_fault : MethodName := ⟨RX9, "fault", "()I"⟩
abbrev cX9_many : ByteArray := prog_11_method_71_code
def yX9_many : MethodName := ⟨RX9, "many", "(I)I"⟩
def RJ6 : String := "java/lang/Integer"
abbrev cJ6_bitCount_0f7a4 : ByteArray := prog_12_method_49_code
def yJ6_bitCount_0f7a4 : MethodName := ⟨RJ6, "bitCount", "(I)I"⟩
def RJ9 : String := "java/lang/Math"
abbrev cJ9_max_7cf53 : ByteArray := prog_13_method_65_code
def yJ9_max_7cf53 : MethodName := ⟨RJ9, "max", "(II)I"⟩
abbrev cJ9_min_7cf53 : ByteArray := prog_13_method_69_code
def yJ9_min_7cf53 : MethodName := ⟨RJ9, "min", "(II)I"⟩
def RJ10 : String := "java/lang/System"
def RL : String := "BogTownLaw"
abbrev cL_law : ByteArray := code
def yL_law : MethodName := ⟨RL, "law", "([I)Z"⟩
abbrev vwCl : List vw_C := [(RX0, TX0, 6), (RX1, TX1, 5), (RX2, TX2, 7), (RX3, TX3, 7), (RX4, TX4, 4), (RX5, TX5, 8), (RX6, TX6, 4), (RX7, TX7, 3), (RX8, TX8, 11), (RX9, TX9, 36)]
end
section
def zB (i : Nat) : ByteArray := (bif Nat.blt i 84 then (bif Nat.blt i 42 then (bif Nat.blt i 21 then (bif Nat.blt i 10 then (bif Nat.blt i 5 then (bif Nat.blt i 2 then (bif Nat.blt i 1 then cX0_init else cX0_has) else (bif Nat.blt i 3 then cX0_leave else (bif Nat.blt i 4 then cX0_enter else cX0_isThere))) else (bif Nat.blt i 7 then (bif Nat.blt i 6 then cX0_haveBeds else cX0_sleepers) else (bif Nat.blt i 8 then cX1_init else (bif Nat.blt i 9 then cX1_pressedBy else cX1_comesUp)))) else (bif Nat.blt i 15 then (bif Nat.blt i 12 then (bif Nat.blt i 11 then cX2_init else cX2_planksFor) else (bif Nat.blt i 13 then cX2_houseFor else (bif Nat.blt i 14 then cX2_search else cX2_layOut))) else (bif Nat.blt i 18 then (bif Nat.blt i 16 then cX2_keepIfFewer else (bif Nat.blt i 17 then cX3_init else cX3_pass)) else (bif Nat.blt i 19 then cX3_planksBelow else (bif Nat.blt i 20 then cX3_begin else cX3_passNight))))) else (bif Nat.blt i 31 then (bif Nat.blt i 26 then (bif Nat.blt i 23 then (bif Nat.blt i 22 then cX3_weigh else cX3_press) else (bif Nat.blt i 24 then cX3_depthAt else (bif Nat.blt i 25 then cX3_isUnderAt else cX3_canStep))) else (bif Nat.blt i 28 then (bif Nat.blt i 27 then cX3_planksAt else cX3_stepped) else (bif Nat.blt i 29 then cX4_init else (bif Nat.blt i 30 then cX4_add else cX4_lastDawn)))) else (bif Nat.blt i 36 then (bif Nat.blt i 33 then (bif Nat.blt i 32 then cX4_areSo else cX5_init) else (bif Nat.blt i 34 then cX5_houseBehind else (bif Nat.blt i 35 then cX5_run else cX5_keep))) else (bif Nat.blt i 39 then (bif Nat.blt i 37 then cX5_moves else (bif Nat.blt i 38 then cX5_howDeep else cX6_init)) else (bif Nat.blt i 40 then cX6_layRow else (bif Nat.blt i 41 then cX6_isOfAnotherLane else cX6_hasCells)))))) else (bif Nat.blt i 63 then (bif Nat.blt i 52 then (bif Nat.blt i 47 then (bif Nat.blt i 44 then (bif Nat.blt i 43 then cX6_cut else cX7_init) else (bif Nat.blt i 45 then cX7_has else (bif Nat.blt i 46 then cX7_build else cX7_kindOf))) else (bif Nat.blt i 49 then (bif Nat.blt i 48 then cX8_init else cX8_town) else (bif Nat.blt i 50 then cX8_ofHouse else (bif Nat.blt i 51 then cX8_guest else cX8_ofGuest)))) else (bif Nat.blt i 57 then (bif Nat.blt i 54 then (bif Nat.blt i 53 then cX8_lodge else cX8_depth) else (bif Nat.blt i 55 then cX8_reach else (bif Nat.blt i 56 then cX8_planks else cX8_under))) else (bif Nat.blt i 60 then (bif Nat.blt i 58 then cX8_open else (bif Nat.blt i 59 then cX8_lodgings else cX8_feast)) else (bif Nat.blt i 61 then cX8_way else (bif Nat.blt i 62 then cX8_reading else cX8_back))))) else (bif Nat.blt i 73 then (bif Nat.blt i 68 then (bif Nat.blt i 65 then (bif Nat.blt i 64 then cX8_right else cX8_unseen) else (bif Nat.blt i 66 then cX8_piles else (bif Nat.blt i 67 then cX8_settles else cX8_after))) else (bif Nat.blt i 70 then (bif Nat.blt i 69 then cX8_sheet else cX8_lose) else (bif Nat.blt i 71 then cX8_put else (bif Nat.blt i 72 then cX8_cell else cX8_copy)))) else (bif Nat.blt i 78 then (bif Nat.blt i 75 then (bif Nat.blt i 74 then cX8_tell else cX8_knock) else (bif Nat.blt i 76 then cX8_as else (bif Nat.blt i 77 then cX8_trace else cX8_fault))) else (bif Nat.blt i 81 then (bif Nat.blt i 79 then cX8_many else (bif Nat.blt i 80 then cX8_isWithin else cX8_isSheet)) else (bif Nat.blt i 82 then cX8_isLane else (bif Nat.blt i 83 then cX8_isNight else cX8_isDawn))))))) else (bif Nat.blt i 126 then (bif Nat.blt i 105 then (bif Nat.blt i 94 then (bif Nat.blt i 89 then (bif Nat.blt i 86 then (bif Nat.blt i 85 then cX8_failed else cX8_commonDivisor) else (bif Nat.blt i 87 then cX8_forget else (bif Nat.blt i 88 then cX8_asItIs else cX8_nightsAbove))) else (bif Nat.blt i 91 then (bif Nat.blt i 90 then cX8_couldSleep else cX8_leaveTrace) else (bif Nat.blt i 92 then cX8_toldAsHouse else (bif Nat.blt i 93 then cX8_toldAsInn else cX8_toldAsPiled)))) else (bif Nat.blt i 99 then (bif Nat.blt i 96 then (bif Nat.blt i 95 then cX8_firstFault else cX8_goesOn) else (bif Nat.blt i 97 then cX9_init else (bif Nat.blt i 98 then cX9_in else cX9_lost))) else (bif Nat.blt i 102 then (bif Nat.blt i 100 then cX9_off else (bif Nat.blt i 101 then cX9_told else cX9_refused)) else (bif Nat.blt i 103 then cX9_failed else (bif Nat.blt i 104 then cX9_failedLong else cX9_noHouse))))) else (bif Nat.blt i 115 then (bif Nat.blt i 110 then (bif Nat.blt i 107 then (bif Nat.blt i 106 then cX9_codeAt else cX9_figure) else (bif Nat.blt i 108 then cX9_readsHouse else (bif Nat.blt i 109 then cX9_readsTown else cX9_town))) else (bif Nat.blt i 112 then (bif Nat.blt i 111 then cX9_ofHouse else cX9_noGuest) else (bif Nat.blt i 113 then cX9_guest else (bif Nat.blt i 114 then cX9_ofGuest else cX9_isThere)))) else (bif Nat.blt i 120 then (bif Nat.blt i 117 then (bif Nat.blt i 116 then cX9_sleepers else cX9_hasBed) else (bif Nat.blt i 118 then cX9_lodge else (bif Nat.blt i 119 then cX9_begin else cX9_beginPlain))) else (bif Nat.blt i 123 then (bif Nat.blt i 121 then cX9_isPiled else (bif Nat.blt i 122 then cX9_press else cX9_goNight)) else (bif Nat.blt i 124 then cX9_goTo else (bif Nat.blt i 125 then cX9_isStep else cX9_planksNow)))))) else (bif Nat.blt i 147 then (bif Nat.blt i 136 then (bif Nat.blt i 131 then (bif Nat.blt i 128 then (bif Nat.blt i 127 then cX9_allPlanks else cX9_isUnder) else (bif Nat.blt i 129 then cX9_isDawn else (bif Nat.blt i 130 then cX9_depth else cX9_reach))) else (bif Nat.blt i 133 then (bif Nat.blt i 132 then cX9_planks else cX9_under) else (bif Nat.blt i 134 then cX9_open else (bif Nat.blt i 135 then cX9_keepHouses else cX9_takeHouses)))) else (bif Nat.blt i 141 then (bif Nat.blt i 138 then (bif Nat.blt i 137 then cX9_haveBeds else cX9_lodgings) else (bif Nat.blt i 139 then cX9_feast else (bif Nat.blt i 140 then cX9_way else cX9_reading))) else (bif Nat.blt i 144 then (bif Nat.blt i 142 then cX9_back else (bif Nat.blt i 143 then cX9_areSo else cX9_right)) else (bif Nat.blt i 145 then cX9_unseen else (bif Nat.blt i 146 then cX9_bits else cX9_piles))))) else (bif Nat.blt i 158 then (bif Nat.blt i 152 then (bif Nat.blt i 149 then (bif Nat.blt i 148 then cX9_sleepsDeep else cX9_moves) else (bif Nat.blt i 150 then cX9_goRound else (bif Nat.blt i 151 then cX9_settles else cX9_after))) else (bif Nat.blt i 155 then (bif Nat.blt i 153 then cX9_noSheet else (bif Nat.blt i 154 then cX9_sheet else cX9_lose)) else (bif Nat.blt i 156 then cX9_noCell else (bif Nat.blt i 157 then cX9_put else cX9_cell)))) else (bif Nat.blt i 163 then (bif Nat.blt i 160 then (bif Nat.blt i 159 then cX9_isBeyond else cX9_copy) else (bif Nat.blt i 161 then cX9_traced else (bif Nat.blt i 162 then cX9_tell else cX9_knock))) else (bif Nat.blt i 166 then (bif Nat.blt i 164 then cX9_as else (bif Nat.blt i 165 then cX9_trace else cX9_fault)) else (bif Nat.blt i 167 then cX9_many else (bif Nat.blt i 168 then cJ6_bitCount_0f7a4 else cL_law))))))))

def zY (i : Nat) : MethodName := (bif Nat.blt i 84 then (bif Nat.blt i 42 then (bif Nat.blt i 21 then (bif Nat.blt i 10 then (bif Nat.blt i 5 then (bif Nat.blt i 2 then (bif Nat.blt i 1 then yX0_init else yX0_has) else (bif Nat.blt i 3 then yX0_leave else (bif Nat.blt i 4 then yX0_enter else yX0_isThere))) else (bif Nat.blt i 7 then (bif Nat.blt i 6 then yX0_haveBeds else yX0_sleepers) else (bif Nat.blt i 8 then yX1_init else (bif Nat.blt i 9 then yX1_pressedBy else yX1_comesUp)))) else (bif Nat.blt i 15 then (bif Nat.blt i 12 then (bif Nat.blt i 11 then yX2_init else yX2_planksFor) else (bif Nat.blt i 13 then yX2_houseFor else (bif Nat.blt i 14 then yX2_search else yX2_layOut))) else (bif Nat.blt i 18 then (bif Nat.blt i 16 then yX2_keepIfFewer else (bif Nat.blt i 17 then yX3_init else yX3_pass)) else (bif Nat.blt i 19 then yX3_planksBelow else (bif Nat.blt i 20 then yX3_begin else yX3_passNight))))) else (bif Nat.blt i 31 then (bif Nat.blt i 26 then (bif Nat.blt i 23 then (bif Nat.blt i 22 then yX3_weigh else yX3_press) else (bif Nat.blt i 24 then yX3_depthAt else (bif Nat.blt i 25 then yX3_isUnderAt else yX3_canStep))) else (bif Nat.blt i 28 then (bif Nat.blt i 27 then yX3_planksAt else yX3_stepped) else (bif Nat.blt i 29 then yX4_init else (bif Nat.blt i 30 then yX4_add else yX4_lastDawn)))) else (bif Nat.blt i 36 then (bif Nat.blt i 33 then (bif Nat.blt i 32 then yX4_areSo else yX5_init) else (bif Nat.blt i 34 then yX5_houseBehind else (bif Nat.blt i 35 then yX5_run else yX5_keep))) else (bif Nat.blt i 39 then (bif Nat.blt i 37 then yX5_moves else (bif Nat.blt i 38 then yX5_howDeep else yX6_init)) else (bif Nat.blt i 40 then yX6_layRow else (bif Nat.blt i 41 then yX6_isOfAnotherLane else yX6_hasCells)))))) else (bif Nat.blt i 63 then (bif Nat.blt i 52 then (bif Nat.blt i 47 then (bif Nat.blt i 44 then (bif Nat.blt i 43 then yX6_cut else yX7_init) else (bif Nat.blt i 45 then yX7_has else (bif Nat.blt i 46 then yX7_build else yX7_kindOf))) else (bif Nat.blt i 49 then (bif Nat.blt i 48 then yX8_init else yX8_town) else (bif Nat.blt i 50 then yX8_ofHouse else (bif Nat.blt i 51 then yX8_guest else yX8_ofGuest)))) else (bif Nat.blt i 57 then (bif Nat.blt i 54 then (bif Nat.blt i 53 then yX8_lodge else yX8_depth) else (bif Nat.blt i 55 then yX8_reach else (bif Nat.blt i 56 then yX8_planks else yX8_under))) else (bif Nat.blt i 60 then (bif Nat.blt i 58 then yX8_open else (bif Nat.blt i 59 then yX8_lodgings else yX8_feast)) else (bif Nat.blt i 61 then yX8_way else (bif Nat.blt i 62 then yX8_reading else yX8_back))))) else (bif Nat.blt i 73 then (bif Nat.blt i 68 then (bif Nat.blt i 65 then (bif Nat.blt i 64 then yX8_right else yX8_unseen) else (bif Nat.blt i 66 then yX8_piles else (bif Nat.blt i 67 then yX8_settles else yX8_after))) else (bif Nat.blt i 70 then (bif Nat.blt i 69 then yX8_sheet else yX8_lose) else (bif Nat.blt i 71 then yX8_put else (bif Nat.blt i 72 then yX8_cell else yX8_copy)))) else (bif Nat.blt i 78 then (bif Nat.blt i 75 then (bif Nat.blt i 74 then yX8_tell else yX8_knock) else (bif Nat.blt i 76 then yX8_as else (bif Nat.blt i 77 then yX8_trace else yX8_fault))) else (bif Nat.blt i 81 then (bif Nat.blt i 79 then yX8_many else (bif Nat.blt i 80 then yX8_isWithin else yX8_isSheet)) else (bif Nat.blt i 82 then yX8_isLane else (bif Nat.blt i 83 then yX8_isNight else yX8_isDawn))))))) else (bif Nat.blt i 126 then (bif Nat.blt i 105 then (bif Nat.blt i 94 then (bif Nat.blt i 89 then (bif Nat.blt i 86 then (bif Nat.blt i 85 then yX8_failed else yX8_commonDivisor) else (bif Nat.blt i 87 then yX8_forget else (bif Nat.blt i 88 then yX8_asItIs else yX8_nightsAbove))) else (bif Nat.blt i 91 then (bif Nat.blt i 90 then yX8_couldSleep else yX8_leaveTrace) else (bif Nat.blt i 92 then yX8_toldAsHouse else (bif Nat.blt i 93 then yX8_toldAsInn else yX8_toldAsPiled)))) else (bif Nat.blt i 99 then (bif Nat.blt i 96 then (bif Nat.blt i 95 then yX8_firstFault else yX8_goesOn) else (bif Nat.blt i 97 then yX9_init else (bif Nat.blt i 98 then yX9_in else yX9_lost))) else (bif Nat.blt i 102 then (bif Nat.blt i 100 then yX9_off else (bif Nat.blt i 101 then yX9_told else yX9_refused)) else (bif Nat.blt i 103 then yX9_failed else (bif Nat.blt i 104 then yX9_failedLong else yX9_noHouse))))) else (bif Nat.blt i 115 then (bif Nat.blt i 110 then (bif Nat.blt i 107 then (bif Nat.blt i 106 then yX9_codeAt else yX9_figure) else (bif Nat.blt i 108 then yX9_readsHouse else (bif Nat.blt i 109 then yX9_readsTown else yX9_town))) else (bif Nat.blt i 112 then (bif Nat.blt i 111 then yX9_ofHouse else yX9_noGuest) else (bif Nat.blt i 113 then yX9_guest else (bif Nat.blt i 114 then yX9_ofGuest else yX9_isThere)))) else (bif Nat.blt i 120 then (bif Nat.blt i 117 then (bif Nat.blt i 116 then yX9_sleepers else yX9_hasBed) else (bif Nat.blt i 118 then yX9_lodge else (bif Nat.blt i 119 then yX9_begin else yX9_beginPlain))) else (bif Nat.blt i 123 then (bif Nat.blt i 121 then yX9_isPiled else (bif Nat.blt i 122 then yX9_press else yX9_goNight)) else (bif Nat.blt i 124 then yX9_goTo else (bif Nat.blt i 125 then yX9_isStep else yX9_planksNow)))))) else (bif Nat.blt i 147 then (bif Nat.blt i 136 then (bif Nat.blt i 131 then (bif Nat.blt i 128 then (bif Nat.blt i 127 then yX9_allPlanks else yX9_isUnder) else (bif Nat.blt i 129 then yX9_isDawn else (bif Nat.blt i 130 then yX9_depth else yX9_reach))) else (bif Nat.blt i 133 then (bif Nat.blt i 132 then yX9_planks else yX9_under) else (bif Nat.blt i 134 then yX9_open else (bif Nat.blt i 135 then yX9_keepHouses else yX9_takeHouses)))) else (bif Nat.blt i 141 then (bif Nat.blt i 138 then (bif Nat.blt i 137 then yX9_haveBeds else yX9_lodgings) else (bif Nat.blt i 139 then yX9_feast else (bif Nat.blt i 140 then yX9_way else yX9_reading))) else (bif Nat.blt i 144 then (bif Nat.blt i 142 then yX9_back else (bif Nat.blt i 143 then yX9_areSo else yX9_right)) else (bif Nat.blt i 145 then yX9_unseen else (bif Nat.blt i 146 then yX9_bits else yX9_piles))))) else (bif Nat.blt i 158 then (bif Nat.blt i 152 then (bif Nat.blt i 149 then (bif Nat.blt i 148 then yX9_sleepsDeep else yX9_moves) else (bif Nat.blt i 150 then yX9_goRound else (bif Nat.blt i 151 then yX9_settles else yX9_after))) else (bif Nat.blt i 155 then (bif Nat.blt i 153 then yX9_noSheet else (bif Nat.blt i 154 then yX9_sheet else yX9_lose)) else (bif Nat.blt i 156 then yX9_noCell else (bif Nat.blt i 157 then yX9_put else yX9_cell)))) else (bif Nat.blt i 163 then (bif Nat.blt i 160 then (bif Nat.blt i 159 then yX9_isBeyond else yX9_copy) else (bif Nat.blt i 161 then yX9_traced else (bif Nat.blt i 162 then yX9_tell else yX9_knock))) else (bif Nat.blt i 166 then (bif Nat.blt i 164 then yX9_as else (bif Nat.blt i 165 then yX9_trace else yX9_fault)) else (bif Nat.blt i 167 then yX9_many else (bif Nat.blt i 168 then yJ6_bitCount_0f7a4 else yL_law))))))))

def zML (i : Nat) : Nat := (bif Nat.blt i 84 then (bif Nat.blt i 42 then (bif Nat.blt i 21 then (bif Nat.blt i 10 then (bif Nat.blt i 5 then (bif Nat.blt i 2 then (bif Nat.blt i 1 then 3 else 2) else (bif Nat.blt i 3 then 2 else (bif Nat.blt i 4 then 5 else 3))) else (bif Nat.blt i 7 then (bif Nat.blt i 6 then 4 else 6) else (bif Nat.blt i 8 then 1 else (bif Nat.blt i 9 then 4 else 3)))) else (bif Nat.blt i 15 then (bif Nat.blt i 12 then (bif Nat.blt i 11 then 4 else 2) else (bif Nat.blt i 13 then 3 else (bif Nat.blt i 14 then 4 else 5))) else (bif Nat.blt i 18 then (bif Nat.blt i 16 then 3 else (bif Nat.blt i 17 then 3 else 4)) else (bif Nat.blt i 19 then 6 else (bif Nat.blt i 20 then 3 else 8))))) else (bif Nat.blt i 31 then (bif Nat.blt i 26 then (bif Nat.blt i 23 then (bif Nat.blt i 22 then 5 else 5) else (bif Nat.blt i 24 then 3 else (bif Nat.blt i 25 then 3 else 6))) else (bif Nat.blt i 28 then (bif Nat.blt i 27 then 4 else 5) else (bif Nat.blt i 29 then 1 else (bif Nat.blt i 30 then 5 else 3)))) else (bif Nat.blt i 36 then (bif Nat.blt i 33 then (bif Nat.blt i 32 then 3 else 4) else (bif Nat.blt i 34 then 3 else (bif Nat.blt i 35 then 4 else 2))) else (bif Nat.blt i 39 then (bif Nat.blt i 37 then 7 else (bif Nat.blt i 38 then 4 else 1)) else (bif Nat.blt i 40 then 4 else (bif Nat.blt i 41 then 2 else 3)))))) else (bif Nat.blt i 63 then (bif Nat.blt i 52 then (bif Nat.blt i 47 then (bif Nat.blt i 44 then (bif Nat.blt i 43 then 2 else 2) else (bif Nat.blt i 45 then 2 else (bif Nat.blt i 46 then 7 else 1))) else (bif Nat.blt i 49 then (bif Nat.blt i 48 then 2 else 7) else (bif Nat.blt i 50 then 4 else (bif Nat.blt i 51 then 5 else 3)))) else (bif Nat.blt i 57 then (bif Nat.blt i 54 then (bif Nat.blt i 53 then 4 else 3) else (bif Nat.blt i 55 then 6 else (bif Nat.blt i 56 then 5 else 5))) else (bif Nat.blt i 60 then (bif Nat.blt i 58 then 6 else (bif Nat.blt i 59 then 3 else 5)) else (bif Nat.blt i 61 then 7 else (bif Nat.blt i 62 then 4 else 2))))) else (bif Nat.blt i 73 then (bif Nat.blt i 68 then (bif Nat.blt i 65 then (bif Nat.blt i 64 then 1 else 6) else (bif Nat.blt i 66 then 6 else (bif Nat.blt i 67 then 1 else 3))) else (bif Nat.blt i 70 then (bif Nat.blt i 69 then 4 else 3) else (bif Nat.blt i 71 then 5 else (bif Nat.blt i 72 then 5 else 8)))) else (bif Nat.blt i 78 then (bif Nat.blt i 75 then (bif Nat.blt i 74 then 3 else 2) else (bif Nat.blt i 76 then 3 else (bif Nat.blt i 77 then 1 else 1))) else (bif Nat.blt i 81 then (bif Nat.blt i 79 then 2 else (bif Nat.blt i 80 then 3 else 1)) else (bif Nat.blt i 82 then 1 else (bif Nat.blt i 83 then 1 else 1))))))) else (bif Nat.blt i 126 then (bif Nat.blt i 105 then (bif Nat.blt i 94 then (bif Nat.blt i 89 then (bif Nat.blt i 86 then (bif Nat.blt i 85 then 2 else 3) else (bif Nat.blt i 87 then 1 else (bif Nat.blt i 88 then 1 else 4))) else (bif Nat.blt i 91 then (bif Nat.blt i 90 then 3 else 2) else (bif Nat.blt i 92 then 2 else (bif Nat.blt i 93 then 2 else 3)))) else (bif Nat.blt i 99 then (bif Nat.blt i 96 then (bif Nat.blt i 95 then 5 else 2) else (bif Nat.blt i 97 then 2 else (bif Nat.blt i 98 then 6 else 0))) else (bif Nat.blt i 102 then (bif Nat.blt i 100 then 2 else (bif Nat.blt i 101 then 11 else 2)) else (bif Nat.blt i 103 then 2 else (bif Nat.blt i 104 then 2 else 2))))) else (bif Nat.blt i 115 then (bif Nat.blt i 110 then (bif Nat.blt i 107 then (bif Nat.blt i 106 then 3 else 6) else (bif Nat.blt i 108 then 6 else (bif Nat.blt i 109 then 4 else 6))) else (bif Nat.blt i 112 then (bif Nat.blt i 111 then 3 else 2) else (bif Nat.blt i 113 then 4 else (bif Nat.blt i 114 then 3 else 3)))) else (bif Nat.blt i 120 then (bif Nat.blt i 117 then (bif Nat.blt i 116 then 6 else 5) else (bif Nat.blt i 118 then 4 else (bif Nat.blt i 119 then 2 else 1))) else (bif Nat.blt i 123 then (bif Nat.blt i 121 then 2 else (bif Nat.blt i 122 then 6 else 4)) else (bif Nat.blt i 124 then 3 else (bif Nat.blt i 125 then 2 else 3)))))) else (bif Nat.blt i 147 then (bif Nat.blt i 136 then (bif Nat.blt i 131 then (bif Nat.blt i 128 then (bif Nat.blt i 127 then 3 else 2) else (bif Nat.blt i 129 then 1 else (bif Nat.blt i 130 then 3 else 5))) else (bif Nat.blt i 133 then (bif Nat.blt i 132 then 2 else 4) else (bif Nat.blt i 134 then 5 else (bif Nat.blt i 135 then 2 else 2)))) else (bif Nat.blt i 141 then (bif Nat.blt i 138 then (bif Nat.blt i 137 then 4 else 9) else (bif Nat.blt i 139 then 5 else (bif Nat.blt i 140 then 8 else 4))) else (bif Nat.blt i 144 then (bif Nat.blt i 142 then 2 else (bif Nat.blt i 143 then 4 else 1)) else (bif Nat.blt i 145 then 6 else (bif Nat.blt i 146 then 3 else 6))))) else (bif Nat.blt i 158 then (bif Nat.blt i 152 then (bif Nat.blt i 149 then (bif Nat.blt i 148 then 4 else 7) else (bif Nat.blt i 150 then 3 else (bif Nat.blt i 151 then 3 else 4))) else (bif Nat.blt i 155 then (bif Nat.blt i 153 then 1 else (bif Nat.blt i 154 then 5 else 3)) else (bif Nat.blt i 156 then 3 else (bif Nat.blt i 157 then 4 else 4)))) else (bif Nat.blt i 163 then (bif Nat.blt i 160 then (bif Nat.blt i 159 then 4 else 7) else (bif Nat.blt i 161 then 2 else (bif Nat.blt i 162 then 4 else 2))) else (bif Nat.blt i 166 then (bif Nat.blt i 164 then 3 else (bif Nat.blt i 165 then 1 else 1)) else (bif Nat.blt i 167 then 2 else (bif Nat.blt i 168 then 1 else 4))))))))

def zRet (i : Nat) : Option FieldType := (bif Nat.blt i 84 then (bif Nat.blt i 42 then (bif Nat.blt i 21 then (bif Nat.blt i 10 then (bif Nat.blt i 5 then (bif Nat.blt i 2 then (bif Nat.blt i 1 then (none : Option FieldType) else (some .boolean)) else (bif Nat.blt i 3 then (none : Option FieldType) else (bif Nat.blt i 4 then (none : Option FieldType) else (some .boolean)))) else (bif Nat.blt i 7 then (bif Nat.blt i 6 then (some .boolean) else (some .int)) else (bif Nat.blt i 8 then (none : Option FieldType) else (bif Nat.blt i 9 then (some .int) else (some .int))))) else (bif Nat.blt i 15 then (bif Nat.blt i 12 then (bif Nat.blt i 11 then (none : Option FieldType) else (some .int)) else (bif Nat.blt i 13 then (some .int) else (bif Nat.blt i 14 then (none : Option FieldType) else (none : Option FieldType)))) else (bif Nat.blt i 18 then (bif Nat.blt i 16 then (none : Option FieldType) else (bif Nat.blt i 17 then (none : Option FieldType) else (none : Option FieldType))) else (bif Nat.blt i 19 then (some .int) else (bif Nat.blt i 20 then (none : Option FieldType) else (none : Option FieldType)))))) else (bif Nat.blt i 31 then (bif Nat.blt i 26 then (bif Nat.blt i 23 then (bif Nat.blt i 22 then (none : Option FieldType) else (none : Option FieldType)) else (bif Nat.blt i 24 then (some .int) else (bif Nat.blt i 25 then (some .boolean) else (some .boolean)))) else (bif Nat.blt i 28 then (bif Nat.blt i 27 then (some .int) else (some .int)) else (bif Nat.blt i 29 then (none : Option FieldType) else (bif Nat.blt i 30 then (some .int) else (some .int))))) else (bif Nat.blt i 36 then (bif Nat.blt i 33 then (bif Nat.blt i 32 then (some .boolean) else (none : Option FieldType)) else (bif Nat.blt i 34 then (some .int) else (bif Nat.blt i 35 then (none : Option FieldType) else (none : Option FieldType)))) else (bif Nat.blt i 39 then (bif Nat.blt i 37 then (some .boolean) else (bif Nat.blt i 38 then (some .int) else (none : Option FieldType))) else (bif Nat.blt i 40 then (none : Option FieldType) else (bif Nat.blt i 41 then (some .boolean) else (some .boolean))))))) else (bif Nat.blt i 63 then (bif Nat.blt i 52 then (bif Nat.blt i 47 then (bif Nat.blt i 44 then (bif Nat.blt i 43 then (some .int) else (none : Option FieldType)) else (bif Nat.blt i 45 then (some .boolean) else (bif Nat.blt i 46 then (none : Option FieldType) else (some .int)))) else (bif Nat.blt i 49 then (bif Nat.blt i 48 then (none : Option FieldType) else (some .int)) else (bif Nat.blt i 50 then (some .int) else (bif Nat.blt i 51 then (some .int) else (some .int))))) else (bif Nat.blt i 57 then (bif Nat.blt i 54 then (bif Nat.blt i 53 then (some .int) else (some .int)) else (bif Nat.blt i 55 then (some .int) else (bif Nat.blt i 56 then (some .int) else (some .int)))) else (bif Nat.blt i 60 then (bif Nat.blt i 58 then (some .long) else (bif Nat.blt i 59 then (some .int) else (some .int))) else (bif Nat.blt i 61 then (some .int) else (bif Nat.blt i 62 then (some .int) else (some .int)))))) else (bif Nat.blt i 73 then (bif Nat.blt i 68 then (bif Nat.blt i 65 then (bif Nat.blt i 64 then (some .int) else (some .int)) else (bif Nat.blt i 66 then (some .int) else (bif Nat.blt i 67 then (some .int) else (some .int)))) else (bif Nat.blt i 70 then (bif Nat.blt i 69 then (some .int) else (some .int)) else (bif Nat.blt i 71 then (some .int) else (bif Nat.blt i 72 then (some .long) else (some .int))))) else (bif Nat.blt i 78 then (bif Nat.blt i 75 then (bif Nat.blt i 74 then (some .int) else (some .int)) else (bif Nat.blt i 76 then (some .int) else (bif Nat.blt i 77 then (some .int) else (some .int)))) else (bif Nat.blt i 81 then (bif Nat.blt i 79 then (some .int) else (bif Nat.blt i 80 then (some .boolean) else (some .boolean))) else (bif Nat.blt i 82 then (some .boolean) else (bif Nat.blt i 83 then (some .boolean) else (some .boolean)))))))) else (bif Nat.blt i 126 then (bif Nat.blt i 105 then (bif Nat.blt i 94 then (bif Nat.blt i 89 then (bif Nat.blt i 86 then (bif Nat.blt i 85 then (some .int) else (some .int)) else (bif Nat.blt i 87 then (none : Option FieldType) else (bif Nat.blt i 88 then (some (.object "BogTown$Nights")) else (some .int)))) else (bif Nat.blt i 91 then (bif Nat.blt i 90 then (some .boolean) else (none : Option FieldType)) else (bif Nat.blt i 92 then (some .int) else (bif Nat.blt i 93 then (some .int) else (some .int))))) else (bif Nat.blt i 99 then (bif Nat.blt i 96 then (bif Nat.blt i 95 then (some .int) else (some .boolean)) else (bif Nat.blt i 97 then (none : Option FieldType) else (bif Nat.blt i 98 then (some .boolean) else (some .long)))) else (bif Nat.blt i 102 then (bif Nat.blt i 100 then (some .int) else (bif Nat.blt i 101 then (some .long) else (some .int))) else (bif Nat.blt i 103 then (some .int) else (bif Nat.blt i 104 then (some .long) else (some .boolean)))))) else (bif Nat.blt i 115 then (bif Nat.blt i 110 then (bif Nat.blt i 107 then (bif Nat.blt i 106 then (some .int) else (some .int)) else (bif Nat.blt i 108 then (some .boolean) else (bif Nat.blt i 109 then (some .boolean) else (some .int)))) else (bif Nat.blt i 112 then (bif Nat.blt i 111 then (some .int) else (some .boolean)) else (bif Nat.blt i 113 then (some .int) else (bif Nat.blt i 114 then (some .int) else (some .boolean))))) else (bif Nat.blt i 120 then (bif Nat.blt i 117 then (bif Nat.blt i 116 then (some .int) else (some .boolean)) else (bif Nat.blt i 118 then (some .int) else (bif Nat.blt i 119 then (none : Option FieldType) else (none : Option FieldType)))) else (bif Nat.blt i 123 then (bif Nat.blt i 121 then (some .boolean) else (bif Nat.blt i 122 then (none : Option FieldType) else (none : Option FieldType))) else (bif Nat.blt i 124 then (none : Option FieldType) else (bif Nat.blt i 125 then (some .boolean) else (some .int))))))) else (bif Nat.blt i 147 then (bif Nat.blt i 136 then (bif Nat.blt i 131 then (bif Nat.blt i 128 then (bif Nat.blt i 127 then (some .int) else (some .boolean)) else (bif Nat.blt i 129 then (some .boolean) else (bif Nat.blt i 130 then (some .int) else (some .int)))) else (bif Nat.blt i 133 then (bif Nat.blt i 132 then (some .int) else (some .int)) else (bif Nat.blt i 134 then (some .long) else (bif Nat.blt i 135 then (none : Option FieldType) else (none : Option FieldType))))) else (bif Nat.blt i 141 then (bif Nat.blt i 138 then (bif Nat.blt i 137 then (some .boolean) else (some .int)) else (bif Nat.blt i 139 then (some .int) else (bif Nat.blt i 140 then (some .int) else (some .int)))) else (bif Nat.blt i 144 then (bif Nat.blt i 142 then (some .int) else (bif Nat.blt i 143 then (some .boolean) else (some .int))) else (bif Nat.blt i 145 then (some .int) else (bif Nat.blt i 146 then (some .int) else (some .int)))))) else (bif Nat.blt i 158 then (bif Nat.blt i 152 then (bif Nat.blt i 149 then (bif Nat.blt i 148 then (some .int) else (some .boolean)) else (bif Nat.blt i 150 then (some .boolean) else (bif Nat.blt i 151 then (some .int) else (some .int)))) else (bif Nat.blt i 155 then (bif Nat.blt i 153 then (some .boolean) else (bif Nat.blt i 154 then (some .int) else (some .int))) else (bif Nat.blt i 156 then (some .int) else (bif Nat.blt i 157 then (some .int) else (some .long))))) else (bif Nat.blt i 163 then (bif Nat.blt i 160 then (bif Nat.blt i 159 then (some .boolean) else (some .int)) else (bif Nat.blt i 161 then (none : Option FieldType) else (bif Nat.blt i 162 then (some .int) else (some .int)))) else (bif Nat.blt i 166 then (bif Nat.blt i 164 then (some .int) else (bif Nat.blt i 165 then (some .int) else (some .int))) else (bif Nat.blt i 167 then (some .int) else (bif Nat.blt i 168 then (some .int) else (some .boolean)))))))))

def zC (i : Nat) : Nat := (bif Nat.blt i 84 then (bif Nat.blt i 42 then (bif Nat.blt i 21 then (bif Nat.blt i 10 then (bif Nat.blt i 5 then (bif Nat.blt i 2 then (bif Nat.blt i 1 then 0 else 0) else (bif Nat.blt i 3 then 0 else (bif Nat.blt i 4 then 0 else 0))) else (bif Nat.blt i 7 then (bif Nat.blt i 6 then 0 else 0) else (bif Nat.blt i 8 then 1 else (bif Nat.blt i 9 then 1 else 1)))) else (bif Nat.blt i 15 then (bif Nat.blt i 12 then (bif Nat.blt i 11 then 2 else 2) else (bif Nat.blt i 13 then 2 else (bif Nat.blt i 14 then 2 else 2))) else (bif Nat.blt i 18 then (bif Nat.blt i 16 then 2 else (bif Nat.blt i 17 then 3 else 3)) else (bif Nat.blt i 19 then 3 else (bif Nat.blt i 20 then 3 else 3))))) else (bif Nat.blt i 31 then (bif Nat.blt i 26 then (bif Nat.blt i 23 then (bif Nat.blt i 22 then 3 else 3) else (bif Nat.blt i 24 then 3 else (bif Nat.blt i 25 then 3 else 3))) else (bif Nat.blt i 28 then (bif Nat.blt i 27 then 3 else 3) else (bif Nat.blt i 29 then 4 else (bif Nat.blt i 30 then 4 else 4)))) else (bif Nat.blt i 36 then (bif Nat.blt i 33 then (bif Nat.blt i 32 then 4 else 5) else (bif Nat.blt i 34 then 5 else (bif Nat.blt i 35 then 5 else 5))) else (bif Nat.blt i 39 then (bif Nat.blt i 37 then 5 else (bif Nat.blt i 38 then 5 else 6)) else (bif Nat.blt i 40 then 6 else (bif Nat.blt i 41 then 6 else 6)))))) else (bif Nat.blt i 63 then (bif Nat.blt i 52 then (bif Nat.blt i 47 then (bif Nat.blt i 44 then (bif Nat.blt i 43 then 6 else 7) else (bif Nat.blt i 45 then 7 else (bif Nat.blt i 46 then 7 else 7))) else (bif Nat.blt i 49 then (bif Nat.blt i 48 then 8 else 8) else (bif Nat.blt i 50 then 8 else (bif Nat.blt i 51 then 8 else 8)))) else (bif Nat.blt i 57 then (bif Nat.blt i 54 then (bif Nat.blt i 53 then 8 else 8) else (bif Nat.blt i 55 then 8 else (bif Nat.blt i 56 then 8 else 8))) else (bif Nat.blt i 60 then (bif Nat.blt i 58 then 8 else (bif Nat.blt i 59 then 8 else 8)) else (bif Nat.blt i 61 then 8 else (bif Nat.blt i 62 then 8 else 8))))) else (bif Nat.blt i 73 then (bif Nat.blt i 68 then (bif Nat.blt i 65 then (bif Nat.blt i 64 then 8 else 8) else (bif Nat.blt i 66 then 8 else (bif Nat.blt i 67 then 8 else 8))) else (bif Nat.blt i 70 then (bif Nat.blt i 69 then 8 else 8) else (bif Nat.blt i 71 then 8 else (bif Nat.blt i 72 then 8 else 8)))) else (bif Nat.blt i 78 then (bif Nat.blt i 75 then (bif Nat.blt i 74 then 8 else 8) else (bif Nat.blt i 76 then 8 else (bif Nat.blt i 77 then 8 else 8))) else (bif Nat.blt i 81 then (bif Nat.blt i 79 then 8 else (bif Nat.blt i 80 then 8 else 8)) else (bif Nat.blt i 82 then 8 else (bif Nat.blt i 83 then 8 else 8))))))) else (bif Nat.blt i 126 then (bif Nat.blt i 105 then (bif Nat.blt i 94 then (bif Nat.blt i 89 then (bif Nat.blt i 86 then (bif Nat.blt i 85 then 8 else 8) else (bif Nat.blt i 87 then 8 else (bif Nat.blt i 88 then 8 else 8))) else (bif Nat.blt i 91 then (bif Nat.blt i 90 then 8 else 8) else (bif Nat.blt i 92 then 8 else (bif Nat.blt i 93 then 8 else 8)))) else (bif Nat.blt i 99 then (bif Nat.blt i 96 then (bif Nat.blt i 95 then 8 else 8) else (bif Nat.blt i 97 then 9 else (bif Nat.blt i 98 then 9 else 9))) else (bif Nat.blt i 102 then (bif Nat.blt i 100 then 9 else (bif Nat.blt i 101 then 9 else 9)) else (bif Nat.blt i 103 then 9 else (bif Nat.blt i 104 then 9 else 9))))) else (bif Nat.blt i 115 then (bif Nat.blt i 110 then (bif Nat.blt i 107 then (bif Nat.blt i 106 then 9 else 9) else (bif Nat.blt i 108 then 9 else (bif Nat.blt i 109 then 9 else 9))) else (bif Nat.blt i 112 then (bif Nat.blt i 111 then 9 else 9) else (bif Nat.blt i 113 then 9 else (bif Nat.blt i 114 then 9 else 9)))) else (bif Nat.blt i 120 then (bif Nat.blt i 117 then (bif Nat.blt i 116 then 9 else 9) else (bif Nat.blt i 118 then 9 else (bif Nat.blt i 119 then 9 else 9))) else (bif Nat.blt i 123 then (bif Nat.blt i 121 then 9 else (bif Nat.blt i 122 then 9 else 9)) else (bif Nat.blt i 124 then 9 else (bif Nat.blt i 125 then 9 else 9)))))) else (bif Nat.blt i 147 then (bif Nat.blt i 136 then (bif Nat.blt i 131 then (bif Nat.blt i 128 then (bif Nat.blt i 127 then 9 else 9) else (bif Nat.blt i 129 then 9 else (bif Nat.blt i 130 then 9 else 9))) else (bif Nat.blt i 133 then (bif Nat.blt i 132 then 9 else 9) else (bif Nat.blt i 134 then 9 else (bif Nat.blt i 135 then 9 else 9)))) else (bif Nat.blt i 141 then (bif Nat.blt i 138 then (bif Nat.blt i 137 then 9 else 9) else (bif Nat.blt i 139 then 9 else (bif Nat.blt i 140 then 9 else 9))) else (bif Nat.blt i 144 then (bif Nat.blt i 142 then 9 else (bif Nat.blt i 143 then 9 else 9)) else (bif Nat.blt i 145 then 9 else (bif Nat.blt i 146 then 9 else 9))))) else (bif Nat.blt i 158 then (bif Nat.blt i 152 then (bif Nat.blt i 149 then (bif Nat.blt i 148 then 9 else 9) else (bif Nat.blt i 150 then 9 else (bif Nat.blt i 151 then 9 else 9))) else (bif Nat.blt i 155 then (bif Nat.blt i 153 then 9 else (bif Nat.blt i 154 then 9 else 9)) else (bif Nat.blt i 156 then 9 else (bif Nat.blt i 157 then 9 else 9)))) else (bif Nat.blt i 163 then (bif Nat.blt i 160 then (bif Nat.blt i 159 then 9 else 9) else (bif Nat.blt i 161 then 9 else (bif Nat.blt i 162 then 9 else 9))) else (bif Nat.blt i 166 then (bif Nat.blt i 164 then 9 else (bif Nat.blt i 165 then 9 else 9)) else (bif Nat.blt i 167 then 9 else (bif Nat.blt i 168 then 11 else 10))))))))

def zMc (i : Nat) : Nat := (bif Nat.blt i 84 then (bif Nat.blt i 42 then (bif Nat.blt i 21 then (bif Nat.blt i 10 then (bif Nat.blt i 5 then (bif Nat.blt i 2 then (bif Nat.blt i 1 then 4 else 0) else (bif Nat.blt i 3 then 0 else (bif Nat.blt i 4 then 0 else 0))) else (bif Nat.blt i 7 then (bif Nat.blt i 6 then 0 else 0) else (bif Nat.blt i 8 then 0 else (bif Nat.blt i 9 then 0 else 0)))) else (bif Nat.blt i 15 then (bif Nat.blt i 12 then (bif Nat.blt i 11 then 3 else 0) else (bif Nat.blt i 13 then 0 else (bif Nat.blt i 14 then 0 else 0))) else (bif Nat.blt i 18 then (bif Nat.blt i 16 then 0 else (bif Nat.blt i 17 then 4 else 0)) else (bif Nat.blt i 19 then 0 else (bif Nat.blt i 20 then 0 else 0))))) else (bif Nat.blt i 31 then (bif Nat.blt i 26 then (bif Nat.blt i 23 then (bif Nat.blt i 22 then 0 else 0) else (bif Nat.blt i 24 then 0 else (bif Nat.blt i 25 then 0 else 0))) else (bif Nat.blt i 28 then (bif Nat.blt i 27 then 0 else 0) else (bif Nat.blt i 29 then 3 else (bif Nat.blt i 30 then 0 else 0)))) else (bif Nat.blt i 36 then (bif Nat.blt i 33 then (bif Nat.blt i 32 then 0 else 2) else (bif Nat.blt i 34 then 0 else (bif Nat.blt i 35 then 0 else 0))) else (bif Nat.blt i 39 then (bif Nat.blt i 37 then 0 else (bif Nat.blt i 38 then 0 else 1)) else (bif Nat.blt i 40 then 0 else (bif Nat.blt i 41 then 0 else 0)))))) else (bif Nat.blt i 63 then (bif Nat.blt i 52 then (bif Nat.blt i 47 then (bif Nat.blt i 44 then (bif Nat.blt i 43 then 0 else 8) else (bif Nat.blt i 45 then 0 else (bif Nat.blt i 46 then 0 else 0))) else (bif Nat.blt i 49 then (bif Nat.blt i 48 then 44 else 0) else (bif Nat.blt i 50 then 0 else (bif Nat.blt i 51 then 0 else 0)))) else (bif Nat.blt i 57 then (bif Nat.blt i 54 then (bif Nat.blt i 53 then 0 else 0) else (bif Nat.blt i 55 then 0 else (bif Nat.blt i 56 then 0 else 0))) else (bif Nat.blt i 60 then (bif Nat.blt i 58 then 0 else (bif Nat.blt i 59 then 0 else 0)) else (bif Nat.blt i 61 then 0 else (bif Nat.blt i 62 then 0 else 0))))) else (bif Nat.blt i 73 then (bif Nat.blt i 68 then (bif Nat.blt i 65 then (bif Nat.blt i 64 then 0 else 0) else (bif Nat.blt i 66 then 0 else (bif Nat.blt i 67 then 0 else 0))) else (bif Nat.blt i 70 then (bif Nat.blt i 69 then 0 else 0) else (bif Nat.blt i 71 then 0 else (bif Nat.blt i 72 then 0 else 0)))) else (bif Nat.blt i 78 then (bif Nat.blt i 75 then (bif Nat.blt i 74 then 0 else 0) else (bif Nat.blt i 76 then 0 else (bif Nat.blt i 77 then 0 else 0))) else (bif Nat.blt i 81 then (bif Nat.blt i 79 then 0 else (bif Nat.blt i 80 then 0 else 0)) else (bif Nat.blt i 82 then 0 else (bif Nat.blt i 83 then 0 else 0))))))) else (bif Nat.blt i 126 then (bif Nat.blt i 105 then (bif Nat.blt i 94 then (bif Nat.blt i 89 then (bif Nat.blt i 86 then (bif Nat.blt i 85 then 0 else 0) else (bif Nat.blt i 87 then 0 else (bif Nat.blt i 88 then 0 else 0))) else (bif Nat.blt i 91 then (bif Nat.blt i 90 then 0 else 0) else (bif Nat.blt i 92 then 0 else (bif Nat.blt i 93 then 0 else 0)))) else (bif Nat.blt i 99 then (bif Nat.blt i 96 then (bif Nat.blt i 95 then 0 else 0) else (bif Nat.blt i 97 then 23 else (bif Nat.blt i 98 then 0 else 0))) else (bif Nat.blt i 102 then (bif Nat.blt i 100 then 0 else (bif Nat.blt i 101 then 0 else 0)) else (bif Nat.blt i 103 then 0 else (bif Nat.blt i 104 then 0 else 0))))) else (bif Nat.blt i 115 then (bif Nat.blt i 110 then (bif Nat.blt i 107 then (bif Nat.blt i 106 then 0 else 0) else (bif Nat.blt i 108 then 0 else (bif Nat.blt i 109 then 0 else 0))) else (bif Nat.blt i 112 then (bif Nat.blt i 111 then 0 else 0) else (bif Nat.blt i 113 then 0 else (bif Nat.blt i 114 then 0 else 0)))) else (bif Nat.blt i 120 then (bif Nat.blt i 117 then (bif Nat.blt i 116 then 0 else 0) else (bif Nat.blt i 118 then 0 else (bif Nat.blt i 119 then 0 else 0))) else (bif Nat.blt i 123 then (bif Nat.blt i 121 then 0 else (bif Nat.blt i 122 then 0 else 0)) else (bif Nat.blt i 124 then 0 else (bif Nat.blt i 125 then 0 else 0)))))) else (bif Nat.blt i 147 then (bif Nat.blt i 136 then (bif Nat.blt i 131 then (bif Nat.blt i 128 then (bif Nat.blt i 127 then 0 else 0) else (bif Nat.blt i 129 then 0 else (bif Nat.blt i 130 then 0 else 0))) else (bif Nat.blt i 133 then (bif Nat.blt i 132 then 0 else 0) else (bif Nat.blt i 134 then 0 else (bif Nat.blt i 135 then 0 else 0)))) else (bif Nat.blt i 141 then (bif Nat.blt i 138 then (bif Nat.blt i 137 then 0 else 0) else (bif Nat.blt i 139 then 0 else (bif Nat.blt i 140 then 0 else 0))) else (bif Nat.blt i 144 then (bif Nat.blt i 142 then 0 else (bif Nat.blt i 143 then 0 else 0)) else (bif Nat.blt i 145 then 0 else (bif Nat.blt i 146 then 0 else 0))))) else (bif Nat.blt i 158 then (bif Nat.blt i 152 then (bif Nat.blt i 149 then (bif Nat.blt i 148 then 0 else 0) else (bif Nat.blt i 150 then 0 else (bif Nat.blt i 151 then 0 else 0))) else (bif Nat.blt i 155 then (bif Nat.blt i 153 then 0 else (bif Nat.blt i 154 then 0 else 0)) else (bif Nat.blt i 156 then 0 else (bif Nat.blt i 157 then 0 else 0)))) else (bif Nat.blt i 163 then (bif Nat.blt i 160 then (bif Nat.blt i 159 then 0 else 0) else (bif Nat.blt i 161 then 0 else (bif Nat.blt i 162 then 0 else 0))) else (bif Nat.blt i 166 then (bif Nat.blt i 164 then 0 else (bif Nat.blt i 165 then 0 else 0)) else (bif Nat.blt i 167 then 0 else (bif Nat.blt i 168 then 0 else 14000))))))))

def zFr (i : Nat) : Nat := (bif Nat.blt i 84 then (bif Nat.blt i 42 then (bif Nat.blt i 21 then (bif Nat.blt i 10 then (bif Nat.blt i 5 then (bif Nat.blt i 2 then (bif Nat.blt i 1 then 1 else 0) else (bif Nat.blt i 3 then 0 else (bif Nat.blt i 4 then 0 else 0))) else (bif Nat.blt i 7 then (bif Nat.blt i 6 then 2 else 1) else (bif Nat.blt i 8 then 1 else (bif Nat.blt i 9 then 0 else 0)))) else (bif Nat.blt i 15 then (bif Nat.blt i 12 then (bif Nat.blt i 11 then 1 else 0) else (bif Nat.blt i 13 then 0 else (bif Nat.blt i 14 then 5 else 0))) else (bif Nat.blt i 18 then (bif Nat.blt i 16 then 4 else (bif Nat.blt i 17 then 1 else 3)) else (bif Nat.blt i 19 then 3 else (bif Nat.blt i 20 then 0 else 2))))) else (bif Nat.blt i 31 then (bif Nat.blt i 26 then (bif Nat.blt i 23 then (bif Nat.blt i 22 then 1 else 1) else (bif Nat.blt i 24 then 0 else (bif Nat.blt i 25 then 1 else 0))) else (bif Nat.blt i 28 then (bif Nat.blt i 27 then 1 else 1) else (bif Nat.blt i 29 then 1 else (bif Nat.blt i 30 then 0 else 1)))) else (bif Nat.blt i 36 then (bif Nat.blt i 33 then (bif Nat.blt i 32 then 1 else 1) else (bif Nat.blt i 34 then 1 else (bif Nat.blt i 35 then 5 else 1))) else (bif Nat.blt i 39 then (bif Nat.blt i 37 then 4 else (bif Nat.blt i 38 then 3 else 1)) else (bif Nat.blt i 40 then 0 else (bif Nat.blt i 41 then 0 else 0)))))) else (bif Nat.blt i 63 then (bif Nat.blt i 52 then (bif Nat.blt i 47 then (bif Nat.blt i 44 then (bif Nat.blt i 43 then 0 else 2) else (bif Nat.blt i 45 then 0 else (bif Nat.blt i 46 then 1 else 0))) else (bif Nat.blt i 49 then (bif Nat.blt i 48 then 3 else 3) else (bif Nat.blt i 50 then 1 else (bif Nat.blt i 51 then 2 else 1)))) else (bif Nat.blt i 57 then (bif Nat.blt i 54 then (bif Nat.blt i 53 then 3 else 5) else (bif Nat.blt i 55 then 5 else (bif Nat.blt i 56 then 5 else 5))) else (bif Nat.blt i 60 then (bif Nat.blt i 58 then 5 else (bif Nat.blt i 59 then 6 else 5)) else (bif Nat.blt i 61 then 5 else (bif Nat.blt i 62 then 2 else 1))))) else (bif Nat.blt i 73 then (bif Nat.blt i 68 then (bif Nat.blt i 65 then (bif Nat.blt i 64 then 5 else 5) else (bif Nat.blt i 66 then 4 else (bif Nat.blt i 67 then 6 else 6))) else (bif Nat.blt i 70 then (bif Nat.blt i 69 then 2 else 2) else (bif Nat.blt i 71 then 2 else (bif Nat.blt i 72 then 2 else 2)))) else (bif Nat.blt i 78 then (bif Nat.blt i 75 then (bif Nat.blt i 74 then 4 else 1) else (bif Nat.blt i 76 then 1 else (bif Nat.blt i 77 then 0 else 0))) else (bif Nat.blt i 81 then (bif Nat.blt i 79 then 0 else (bif Nat.blt i 80 then 0 else 1)) else (bif Nat.blt i 82 then 1 else (bif Nat.blt i 83 then 1 else 1))))))) else (bif Nat.blt i 126 then (bif Nat.blt i 105 then (bif Nat.blt i 94 then (bif Nat.blt i 89 then (bif Nat.blt i 86 then (bif Nat.blt i 85 then 0 else 0) else (bif Nat.blt i 87 then 0 else (bif Nat.blt i 88 then 4 else 4))) else (bif Nat.blt i 91 then (bif Nat.blt i 90 then 4 else 0) else (bif Nat.blt i 92 then 1 else (bif Nat.blt i 93 then 2 else 3)))) else (bif Nat.blt i 99 then (bif Nat.blt i 96 then (bif Nat.blt i 95 then 2 else 1) else (bif Nat.blt i 97 then 1 else (bif Nat.blt i 98 then 0 else 0))) else (bif Nat.blt i 102 then (bif Nat.blt i 100 then 0 else (bif Nat.blt i 101 then 0 else 0)) else (bif Nat.blt i 103 then 0 else (bif Nat.blt i 104 then 1 else 1))))) else (bif Nat.blt i 115 then (bif Nat.blt i 110 then (bif Nat.blt i 107 then (bif Nat.blt i 106 then 0 else 1) else (bif Nat.blt i 108 then 2 else (bif Nat.blt i 109 then 3 else 4))) else (bif Nat.blt i 112 then (bif Nat.blt i 111 then 2 else 1) else (bif Nat.blt i 113 then 1 else (bif Nat.blt i 114 then 2 else 0)))) else (bif Nat.blt i 120 then (bif Nat.blt i 117 then (bif Nat.blt i 116 then 1 else 2) else (bif Nat.blt i 118 then 3 else (bif Nat.blt i 119 then 0 else 1))) else (bif Nat.blt i 123 then (bif Nat.blt i 121 then 0 else (bif Nat.blt i 122 then 1 else 2)) else (bif Nat.blt i 124 then 3 else (bif Nat.blt i 125 then 1 else 2)))))) else (bif Nat.blt i 147 then (bif Nat.blt i 136 then (bif Nat.blt i 131 then (bif Nat.blt i 128 then (bif Nat.blt i 127 then 3 else 0) else (bif Nat.blt i 129 then 1 else (bif Nat.blt i 130 then 4 else 4))) else (bif Nat.blt i 133 then (bif Nat.blt i 132 then 4 else 3) else (bif Nat.blt i 134 then 3 else (bif Nat.blt i 135 then 0 else 0)))) else (bif Nat.blt i 141 then (bif Nat.blt i 138 then (bif Nat.blt i 137 then 2 else 4) else (bif Nat.blt i 139 then 3 else (bif Nat.blt i 140 then 4 else 2))) else (bif Nat.blt i 144 then (bif Nat.blt i 142 then 1 else (bif Nat.blt i 143 then 3 else 4)) else (bif Nat.blt i 145 then 4 else (bif Nat.blt i 146 then 0 else 4))))) else (bif Nat.blt i 158 then (bif Nat.blt i 152 then (bif Nat.blt i 149 then (bif Nat.blt i 148 then 3 else 4) else (bif Nat.blt i 150 then 5 else (bif Nat.blt i 151 then 6 else 6))) else (bif Nat.blt i 155 then (bif Nat.blt i 153 then 1 else (bif Nat.blt i 154 then 2 else 2)) else (bif Nat.blt i 156 then 1 else (bif Nat.blt i 157 then 2 else 2)))) else (bif Nat.blt i 163 then (bif Nat.blt i 160 then (bif Nat.blt i 159 then 0 else 2) else (bif Nat.blt i 161 then 0 else (bif Nat.blt i 162 then 2 else 2))) else (bif Nat.blt i 166 then (bif Nat.blt i 164 then 2 else (bif Nat.blt i 165 then 0 else 0)) else (bif Nat.blt i 167 then 0 else (bif Nat.blt i 168 then 0 else 7))))))))

def zLo (i : Nat) : Nat := (bif Nat.blt i 84 then (bif Nat.blt i 42 then (bif Nat.blt i 21 then (bif Nat.blt i 10 then (bif Nat.blt i 5 then (bif Nat.blt i 2 then (bif Nat.blt i 1 then 40 else 0) else (bif Nat.blt i 3 then 0 else (bif Nat.blt i 4 then 0 else 0))) else (bif Nat.blt i 7 then (bif Nat.blt i 6 then 47 else 22) else (bif Nat.blt i 8 then 40 else (bif Nat.blt i 9 then 0 else 0)))) else (bif Nat.blt i 15 then (bif Nat.blt i 12 then (bif Nat.blt i 11 then 40 else 0) else (bif Nat.blt i 13 then 0 else (bif Nat.blt i 14 then 121 else 0))) else (bif Nat.blt i 18 then (bif Nat.blt i 16 then 99 else (bif Nat.blt i 17 then 40 else 74)) else (bif Nat.blt i 19 then 74 else (bif Nat.blt i 20 then 0 else 47))))) else (bif Nat.blt i 31 then (bif Nat.blt i 26 then (bif Nat.blt i 23 then (bif Nat.blt i 22 then 22 else 23) else (bif Nat.blt i 24 then 0 else (bif Nat.blt i 25 then 22 else 0))) else (bif Nat.blt i 28 then (bif Nat.blt i 27 then 25 else 25) else (bif Nat.blt i 29 then 40 else (bif Nat.blt i 30 then 0 else 40)))) else (bif Nat.blt i 36 then (bif Nat.blt i 33 then (bif Nat.blt i 32 then 22 else 40) else (bif Nat.blt i 34 then 40 else (bif Nat.blt i 35 then 123 else 40))) else (bif Nat.blt i 39 then (bif Nat.blt i 37 then 97 else (bif Nat.blt i 38 then 74 else 40)) else (bif Nat.blt i 40 then 0 else (bif Nat.blt i 41 then 0 else 0)))))) else (bif Nat.blt i 63 then (bif Nat.blt i 52 then (bif Nat.blt i 47 then (bif Nat.blt i 44 then (bif Nat.blt i 43 then 0 else 60) else (bif Nat.blt i 45 then 0 else (bif Nat.blt i 46 then 20 else 0))) else (bif Nat.blt i 49 then (bif Nat.blt i 48 then 81 else 67) else (bif Nat.blt i 50 then 21 else (bif Nat.blt i 51 then 42 else 21)))) else (bif Nat.blt i 57 then (bif Nat.blt i 54 then (bif Nat.blt i 53 then 70 else 117) else (bif Nat.blt i 55 then 117 else (bif Nat.blt i 56 then 117 else 117))) else (bif Nat.blt i 60 then (bif Nat.blt i 58 then 117 else (bif Nat.blt i 59 then 144 else 120)) else (bif Nat.blt i 61 then 117 else (bif Nat.blt i 62 then 42 else 22))))) else (bif Nat.blt i 73 then (bif Nat.blt i 68 then (bif Nat.blt i 65 then (bif Nat.blt i 64 then 117 else 119) else (bif Nat.blt i 66 then 99 else (bif Nat.blt i 67 then 146 else 146))) else (bif Nat.blt i 70 then (bif Nat.blt i 69 then 42 else 42) else (bif Nat.blt i 71 then 42 else (bif Nat.blt i 72 then 42 else 42)))) else (bif Nat.blt i 78 then (bif Nat.blt i 75 then (bif Nat.blt i 74 then 85 else 21) else (bif Nat.blt i 76 then 22 else (bif Nat.blt i 77 then 0 else 0))) else (bif Nat.blt i 81 then (bif Nat.blt i 79 then 0 else (bif Nat.blt i 80 then 0 else 22)) else (bif Nat.blt i 82 then 22 else (bif Nat.blt i 83 then 22 else 22))))))) else (bif Nat.blt i 126 then (bif Nat.blt i 105 then (bif Nat.blt i 94 then (bif Nat.blt i 89 then (bif Nat.blt i 86 then (bif Nat.blt i 85 then 0 else 0) else (bif Nat.blt i 87 then 0 else (bif Nat.blt i 88 then 97 else 97))) else (bif Nat.blt i 91 then (bif Nat.blt i 90 then 97 else 0) else (bif Nat.blt i 92 then 21 else (bif Nat.blt i 93 then 42 else 63)))) else (bif Nat.blt i 99 then (bif Nat.blt i 96 then (bif Nat.blt i 95 then 43 else 22) else (bif Nat.blt i 97 then 40 else (bif Nat.blt i 98 then 0 else 0))) else (bif Nat.blt i 102 then (bif Nat.blt i 100 then 0 else (bif Nat.blt i 101 then 0 else 0)) else (bif Nat.blt i 103 then 0 else (bif Nat.blt i 104 then 19 else 25))))) else (bif Nat.blt i 115 then (bif Nat.blt i 110 then (bif Nat.blt i 107 then (bif Nat.blt i 106 then 0 else 25) else (bif Nat.blt i 108 then 50 else (bif Nat.blt i 109 then 75 else 98))) else (bif Nat.blt i 112 then (bif Nat.blt i 111 then 46 else 25) else (bif Nat.blt i 113 then 25 else (bif Nat.blt i 114 then 46 else 0)))) else (bif Nat.blt i 120 then (bif Nat.blt i 117 then (bif Nat.blt i 116 then 22 else 47) else (bif Nat.blt i 118 then 71 else (bif Nat.blt i 119 then 0 else 21))) else (bif Nat.blt i 123 then (bif Nat.blt i 121 then 0 else (bif Nat.blt i 122 then 22 else 47)) else (bif Nat.blt i 124 then 70 else (bif Nat.blt i 125 then 21 else 42)))))) else (bif Nat.blt i 147 then (bif Nat.blt i 136 then (bif Nat.blt i 131 then (bif Nat.blt i 128 then (bif Nat.blt i 127 then 70 else 0) else (bif Nat.blt i 129 then 25 else (bif Nat.blt i 130 then 92 else 92))) else (bif Nat.blt i 133 then (bif Nat.blt i 132 then 92 else 70) else (bif Nat.blt i 134 then 70 else (bif Nat.blt i 135 then 0 else 0)))) else (bif Nat.blt i 141 then (bif Nat.blt i 138 then (bif Nat.blt i 137 then 47 else 92) else (bif Nat.blt i 139 then 70 else (bif Nat.blt i 140 then 92 else 46))) else (bif Nat.blt i 144 then (bif Nat.blt i 142 then 25 else (bif Nat.blt i 143 then 70 else 93)) else (bif Nat.blt i 145 then 93 else (bif Nat.blt i 146 then 0 else 92))))) else (bif Nat.blt i 158 then (bif Nat.blt i 152 then (bif Nat.blt i 149 then (bif Nat.blt i 148 then 70 else 93) else (bif Nat.blt i 150 then 119 else (bif Nat.blt i 151 then 141 else 141))) else (bif Nat.blt i 155 then (bif Nat.blt i 153 then 25 else (bif Nat.blt i 154 then 45 else 45)) else (bif Nat.blt i 156 then 25 else (bif Nat.blt i 157 then 47 else 47)))) else (bif Nat.blt i 163 then (bif Nat.blt i 160 then (bif Nat.blt i 159 then 0 else 45) else (bif Nat.blt i 161 then 0 else (bif Nat.blt i 162 then 46 else 46))) else (bif Nat.blt i 166 then (bif Nat.blt i 164 then 46 else (bif Nat.blt i 165 then 0 else 0)) else (bif Nat.blt i 167 then 0 else (bif Nat.blt i 168 then 0 else 168))))))))

def zCn (i : Nat) : String := (bif Nat.blt i 6 then (bif Nat.blt i 3 then (bif Nat.blt i 1 then RX0 else (bif Nat.blt i 2 then RX1 else RX2)) else (bif Nat.blt i 4 then RX3 else (bif Nat.blt i 5 then RX4 else RX5))) else (bif Nat.blt i 9 then (bif Nat.blt i 7 then RX6 else (bif Nat.blt i 8 then RX7 else RX8)) else (bif Nat.blt i 11 then (bif Nat.blt i 10 then RX9 else RL) else (bif Nat.blt i 12 then RJ6 else RJ9))))

def zLaw : Nat := 168

def zNM : Nat := 169

def zFS : List ((Nat × Nat) × Nat × Nat × Nat × Nat) := [((0, 9), 0, 1, 0, 166), ((0, 15), 0, 2, 0, 169), ((0, 18), 0, 3, 0, 173), ((0, 21), 0, 4, 0, 177), ((0, 24), 0, 0, 0, 165), ((0, 28), 0, 5, 0, 181), ((0, 42), 7, 0, 1, 142), ((0, 46), 1, 1, 1, 119), ((1, 9), 1, 2, 0, 120), ((1, 15), 1, 3, 0, 123), ((1, 18), 1, 0, 0, 113), ((2, 9), 2, 3, 0, 255), ((2, 15), 2, 4, 0, 256), ((2, 18), 2, 5, 0, 257), ((2, 21), 2, 0, 0, 252), ((2, 25), 2, 1, 0, 253), ((2, 29), 2, 2, 0, 254), ((2, 33), 2, 6, 0, 258), ((2, 37), 0, 4, 1, 179), ((2, 48), 7, 1, 1, 146), ((3, 9), 3, 2, 0, 226), ((3, 15), 3, 3, 0, 227), ((3, 18), 3, 4, 0, 228), ((3, 21), 3, 5, 0, 229), ((3, 24), 3, 0, 0, 224), ((3, 28), 3, 1, 0, 225), ((3, 44), 3, 6, 0, 230), ((3, 48), 0, 2, 1, 170), ((3, 53), 0, 3, 1, 174), ((3, 64), 7, 1, 1, 148), ((3, 78), 0, 1, 1, 168), ((3, 81), 7, 0, 1, 143), ((3, 85), 1, 0, 1, 116), ((3, 102), 1, 4, 1, 128), ((3, 105), 7, 2, 1, 150), ((4, 9), 4, 0, 0, 204), ((4, 15), 4, 1, 0, 205), ((4, 18), 4, 2, 0, 206), ((4, 21), 4, 3, 0, 207), ((5, 9), 5, 3, 0, 284), ((5, 15), 5, 4, 0, 285), ((5, 18), 5, 0, 0, 281), ((5, 22), 5, 1, 0, 282), ((5, 26), 5, 2, 0, 283), ((5, 30), 5, 5, 0, 286), ((5, 40), 5, 7, 0, 289), ((5, 44), 0, 4, 1, 178), ((5, 55), 5, 6, 0, 287), ((5, 62), 0, 5, 1, 182), ((5, 73), 7, 1, 1, 147), ((5, 86), 0, 3, 1, 176), ((5, 93), 0, 2, 1, 172), ((6, 9), 6, 0, 0, 315), ((6, 15), 6, 2, 0, 320), ((6, 19), 6, 3, 0, 322), ((6, 22), 6, 1, 0, 318), ((7, 11), 7, 0, 0, 140), ((7, 18), 7, 1, 0, 144), ((7, 22), 6, 0, 1, 316), ((7, 28), 7, 2, 0, 149), ((7, 35), 1, 0, 1, 115), ((7, 38), 1, 1, 1, 118), ((7, 41), 1, 2, 1, 122), ((7, 44), 1, 3, 1, 125), ((7, 47), 1, 4, 1, 127), ((8, 14), 8, 0, 0, 333), ((8, 23), 8, 1, 0, 334), ((8, 30), 8, 2, 0, 335), ((8, 39), 8, 4, 0, 337), ((8, 43), 8, 5, 0, 338), ((8, 51), 8, 6, 0, 339), ((8, 58), 8, 7, 0, 340), ((8, 64), 8, 3, 0, 336), ((8, 69), 8, 10, 0, 343), ((8, 87), 6, 1, 1, 319), ((8, 106), 4, 3, 1, 208), ((8, 112), 7, 1, 1, 145), ((8, 116), 7, 0, 1, 141), ((8, 120), 1, 0, 1, 114), ((8, 125), 1, 1, 1, 117), ((8, 128), 1, 2, 1, 121), ((8, 131), 1, 3, 1, 124), ((8, 134), 1, 4, 1, 126), ((8, 144), 0, 5, 1, 183), ((8, 150), 0, 1, 1, 167), ((8, 154), 0, 2, 1, 171), ((8, 157), 0, 3, 1, 175), ((8, 160), 0, 4, 1, 180), ((8, 232), 5, 6, 1, 288), ((8, 242), 6, 3, 1, 323), ((8, 245), 6, 0, 1, 317), ((8, 251), 6, 2, 1, 321), ((8, 273), 8, 9, 0, 342), ((8, 276), 7, 2, 1, 151), ((8, 279), 8, 8, 0, 341), ((8, 282), 2, 6, 1, 259), ((8, 285), 5, 7, 1, 290), ((9, 7), 9, 3, 0, 747), ((9, 13), 9, 4, 0, 748), ((9, 16), 9, 5, 0, 749), ((9, 19), 9, 6, 0, 750), ((9, 22), 9, 7, 0, 751), ((9, 25), 9, 11, 0, 755), ((9, 28), 9, 12, 0, 756), ((9, 31), 9, 14, 0, 758), ((9, 34), 9, 15, 0, 759), ((9, 37), 9, 16, 0, 760), ((9, 40), 9, 17, 0, 761), ((9, 43), 9, 18, 0, 762), ((9, 46), 9, 19, 0, 763), ((9, 49), 9, 20, 0, 764), ((9, 53), 9, 25, 0, 769), ((9, 56), 9, 26, 0, 770), ((9, 59), 9, 28, 0, 772), ((9, 62), 9, 29, 0, 773), ((9, 65), 9, 30, 0, 774), ((9, 68), 9, 31, 0, 775), ((9, 71), 9, 32, 0, 776), ((9, 74), 9, 33, 0, 777), ((9, 77), 9, 34, 0, 778), ((9, 82), 9, 0, 0, 744), ((9, 90), 9, 1, 0, 745), ((9, 97), 9, 8, 0, 752), ((9, 106), 9, 10, 0, 754), ((9, 113), 9, 9, 0, 753), ((9, 140), 9, 2, 0, 746), ((9, 143), 9, 13, 0, 757), ((9, 146), 9, 27, 0, 771), ((9, 171), 9, 21, 0, 765), ((9, 174), 9, 22, 0, 766), ((9, 177), 9, 23, 0, 767), ((9, 180), 9, 24, 0, 768), ((9, 267), 9, 35, 0, 779)]

def zMS : List ((Nat × Nat) × Nat × Nat × Nat) := [((0, 3), 900, 6, 164), ((0, 32), 44, 1, 448), ((0, 38), 6, 0, 449), ((0, 51), 4, 0, 453), ((1, 3), 900, 6, 112), ((2, 3), 900, 6, 251), ((2, 42), 901, 7, 544), ((2, 53), 14, 0, 547), ((2, 57), 5, 1, 551), ((2, 61), 15, 0, 552), ((2, 65), 18, 1, 556), ((3, 3), 900, 6, 223), ((3, 32), 19, 0, 472), ((3, 36), 20, 0, 476), ((3, 40), 26, 0, 560), ((3, 56), 21, 0, 480), ((3, 60), 22, 0, 486), ((3, 70), 44, 1, 484), ((3, 74), 4, 1, 485), ((3, 90), 8, 1, 490), ((3, 94), 9, 1, 494), ((3, 98), 23, 0, 527), ((3, 108), 25, 0, 518), ((4, 3), 900, 6, 203), ((4, 25), 902, 8, 619), ((4, 31), 23, 1, 606), ((5, 3), 900, 6, 280), ((5, 34), 903, 9, 666), ((5, 49), 901, 7, 641), ((5, 58), 35, 0, 642), ((5, 65), 36, 0, 646), ((5, 69), 37, 0, 650), ((5, 76), 5, 1, 657), ((5, 80), 19, 1, 654), ((5, 89), 20, 1, 655), ((5, 96), 23, 1, 656), ((6, 3), 900, 6, 314), ((7, 3), 900, 6, 105), ((7, 17), 7, 5, 109), ((7, 31), 46, 2, 402), ((8, 5), 900, 6, 97), ((8, 13), 43, 5, 102), ((8, 20), 0, 5, 161), ((8, 29), 28, 5, 200), ((8, 36), 16, 5, 220), ((8, 48), 10, 5, 248), ((8, 57), 32, 5, 277), ((8, 68), 38, 5, 311), ((8, 73), 80, 2, 371), ((8, 77), 81, 2, 377), ((8, 80), 40, 1, 380), ((8, 83), 84, 0, 384), ((8, 91), 41, 1, 388), ((8, 95), 94, 2, 392), ((8, 99), 45, 1, 398), ((8, 103), 2, 1, 405), ((8, 109), 86, 0, 409), ((8, 113), 44, 1, 417), ((8, 137), 79, 2, 374), ((8, 141), 82, 2, 425), ((8, 145), 3, 1, 428), ((8, 149), 1, 1, 436), ((8, 163), 5, 1, 444), ((8, 167), 83, 2, 461), ((8, 170), 87, 0, 464), ((8, 174), 23, 1, 498), ((8, 178), 25, 1, 506), ((8, 181), 26, 1, 514), ((8, 184), 24, 1, 523), ((8, 189), 85, 2, 533), ((8, 192), 13, 1, 540), ((8, 196), 11, 1, 561), ((8, 199), 12, 1, 565), ((8, 202), 88, 0, 573), ((8, 205), 27, 1, 581), ((8, 209), 29, 1, 590), ((8, 213), 31, 1, 602), ((8, 217), 89, 0, 611), ((8, 220), 167, 2, 626), ((8, 225), 18, 1, 632), ((8, 229), 34, 1, 637), ((8, 235), 33, 1, 662), ((8, 238), 39, 1, 673), ((8, 248), 42, 1, 685), ((8, 254), 901, 7, 697), ((8, 260), 93, 0, 702), ((8, 264), 92, 0, 710), ((8, 267), 91, 0, 714), ((8, 270), 90, 0, 706), ((8, 287), 17, 1, 468), ((8, 291), 30, 1, 615), ((8, 295), 95, 2, 395), ((9, 1), 900, 6, 743), ((9, 86), 98, 2, 1000), ((9, 93), 97, 2, 862), ((9, 100), 105, 0, 881), ((9, 109), 106, 0, 885), ((9, 116), 107, 0, 890), ((9, 120), 152, 2, 858), ((9, 124), 101, 0, 865), ((9, 130), 102, 0, 870), ((9, 133), 158, 2, 874), ((9, 137), 108, 0, 877), ((9, 149), 104, 0, 898), ((9, 156), 111, 0, 912), ((9, 159), 114, 0, 928), ((9, 162), 115, 0, 924), ((9, 165), 116, 0, 920), ((9, 168), 118, 0, 948), ((9, 183), 120, 0, 960), ((9, 186), 121, 0, 956), ((9, 190), 119, 0, 944), ((9, 193), 122, 0, 952), ((9, 197), 99, 2, 972), ((9, 200), 124, 0, 968), ((9, 203), 125, 0, 984), ((9, 209), 128, 2, 936), ((9, 212), 123, 0, 940), ((9, 217), 126, 0, 980), ((9, 220), 127, 0, 992), ((9, 223), 100, 2, 1004), ((9, 229), 134, 0, 1012), ((9, 232), 136, 0, 1016), ((9, 236), 135, 0, 1020), ((9, 243), 142, 0, 1046), ((9, 246), 145, 2, 1058), ((9, 249), 147, 0, 1073), ((9, 252), 148, 0, 1069), ((9, 255), 149, 0, 1065), ((9, 260), 155, 0, 1093), ((9, 263), 103, 0, 1101), ((9, 270), 160, 0, 1113), ((10, 9), 47, 4, 94), ((10, 12), 96, 4, 740), ((10, 13), 48, 0, 367), ((10, 17), 109, 0, 854), ((10, 18), 49, 0, 413), ((10, 22), 110, 0, 894), ((10, 23), 50, 0, 421), ((10, 27), 112, 0, 902), ((10, 28), 51, 0, 432), ((10, 31), 113, 0, 908), ((10, 32), 52, 0, 440), ((10, 35), 117, 0, 916), ((10, 36), 53, 0, 457), ((10, 39), 129, 0, 932), ((10, 40), 54, 0, 502), ((10, 43), 130, 0, 964), ((10, 44), 55, 0, 510), ((10, 48), 131, 0, 975), ((10, 49), 56, 0, 519), ((10, 52), 132, 0, 988), ((10, 53), 57, 0, 528), ((10, 57), 133, 0, 996), ((10, 58), 58, 0, 536), ((10, 61), 137, 0, 1007), ((10, 62), 59, 0, 569), ((10, 65), 138, 0, 1024), ((10, 66), 60, 0, 577), ((10, 69), 139, 0, 1029), ((10, 70), 61, 0, 585), ((10, 73), 140, 0, 1033), ((10, 74), 62, 0, 594), ((10, 77), 141, 0, 1038), ((10, 78), 63, 0, 598), ((10, 82), 143, 0, 1042), ((10, 83), 64, 0, 607), ((10, 86), 144, 0, 1050), ((10, 87), 65, 0, 622), ((10, 90), 146, 0, 1054), ((10, 91), 66, 0, 633), ((10, 94), 150, 0, 1061), ((10, 95), 67, 0, 658), ((10, 98), 151, 0, 1077), ((10, 99), 68, 0, 669), ((10, 102), 153, 0, 1081), ((10, 103), 69, 0, 677), ((10, 106), 154, 0, 1085), ((10, 107), 70, 0, 681), ((10, 110), 156, 0, 1089), ((10, 111), 71, 0, 689), ((10, 115), 157, 0, 1097), ((10, 116), 72, 0, 693), ((10, 120), 159, 0, 1105), ((10, 121), 73, 0, 698), ((10, 124), 161, 0, 1109), ((10, 125), 74, 0, 718), ((10, 128), 162, 0, 1117), ((10, 129), 75, 0, 722), ((10, 132), 163, 0, 1121), ((10, 133), 76, 0, 726), ((10, 136), 164, 0, 1125), ((10, 137), 77, 0, 730), ((10, 140), 165, 0, 1129), ((10, 141), 78, 0, 734), ((10, 144), 166, 0, 1133)]

def zCS : List ((Nat × Nat) × Nat × Nat × Nat × Nat) := [((7, 9), 1, 106, 108, 81), ((8, 11), 7, 100, 101, 80), ((8, 18), 0, 159, 160, 82), ((8, 27), 4, 198, 199, 83), ((8, 34), 3, 218, 219, 84), ((8, 46), 2, 246, 247, 85), ((8, 55), 5, 275, 276, 86), ((8, 62), 6, 308, 310, 87), ((10, 7), 8, 92, 93, 79), ((10, 10), 9, 738, 739, 88)]

def zK3 : List ((Nat × Nat) × Int32 × Nat) := [((8, 208), 999999, 589), ((11, 265), 1431655765, 629), ((11, 266), 858993459, 630), ((11, 267), 252645135, 631)]

def zK6 : List ((Nat × Nat) × Int64 × Nat) := [((8, 187), (-9223372036854775808), 532), ((9, 80), (-9223372036854775808), 1003), ((9, 104), 9, 889), ((9, 128), 2, 869), ((9, 152), 30, 906), ((9, 154), 49, 907), ((9, 207), 50, 939), ((9, 215), (-1), 979), ((9, 227), 4, 1011), ((9, 239), 300, 1028), ((9, 241), 999999, 1037), ((9, 258), 3, 861)]

def zMD (i : Nat) : Nat × Nat × Nat × Nat × Nat × Nat := (bif Nat.blt i 84 then (bif Nat.blt i 42 then (bif Nat.blt i 21 then (bif Nat.blt i 10 then (bif Nat.blt i 5 then (bif Nat.blt i 2 then (bif Nat.blt i 1 then (163, 82, 162, 0, 0, 1) else (439, 82, 438, 8, 0, 1)) else (bif Nat.blt i 3 then (408, 82, 407, 4, 0, 0) else (bif Nat.blt i 4 then (431, 82, 430, 7, 0, 4) else (456, 82, 455, 11, 0, 2)))) else (bif Nat.blt i 7 then (bif Nat.blt i 6 then (447, 82, 446, 9, 0, 1) else (452, 82, 451, 10, 0, 3)) else (bif Nat.blt i 8 then (111, 81, 110, 0, 0, 0) else (bif Nat.blt i 9 then (493, 81, 492, 18, 0, 2) else (497, 81, 496, 19, 0, 2))))) else (bif Nat.blt i 15 then (bif Nat.blt i 12 then (bif Nat.blt i 11 then (250, 85, 249, 0, 0, 3) else (564, 85, 563, 28, 0, 1)) else (bif Nat.blt i 13 then (568, 85, 567, 29, 0, 2) else (bif Nat.blt i 14 then (543, 85, 542, 24, 0, 1) else (550, 85, 549, 25, 0, 2)))) else (bif Nat.blt i 18 then (bif Nat.blt i 16 then (555, 85, 554, 26, 0, 1) else (bif Nat.blt i 17 then (222, 84, 221, 0, 0, 2) else (471, 84, 470, 13, 0, 2))) else (bif Nat.blt i 19 then (559, 84, 558, 27, 0, 3) else (bif Nat.blt i 20 then (475, 84, 474, 14, 0, 1) else (479, 84, 478, 15, 0, 3)))))) else (bif Nat.blt i 31 then (bif Nat.blt i 26 then (bif Nat.blt i 23 then (bif Nat.blt i 22 then (483, 84, 482, 16, 0, 2) else (489, 84, 488, 17, 0, 1)) else (bif Nat.blt i 24 then (501, 84, 500, 20, 0, 2) else (bif Nat.blt i 25 then (526, 84, 525, 23, 0, 2) else (509, 84, 508, 21, 0, 2)))) else (bif Nat.blt i 28 then (bif Nat.blt i 27 then (517, 84, 516, 22, 0, 1) else (584, 84, 583, 31, 0, 2)) else (bif Nat.blt i 29 then (202, 83, 201, 0, 0, 0) else (bif Nat.blt i 30 then (593, 83, 592, 32, 0, 3) else (618, 83, 617, 35, 0, 0))))) else (bif Nat.blt i 36 then (bif Nat.blt i 33 then (bif Nat.blt i 32 then (605, 83, 604, 33, 0, 1) else (279, 86, 278, 0, 0, 3)) else (bif Nat.blt i 34 then (665, 86, 664, 40, 0, 2) else (bif Nat.blt i 35 then (640, 86, 639, 36, 0, 0) else (645, 86, 644, 37, 0, 1)))) else (bif Nat.blt i 39 then (bif Nat.blt i 37 then (649, 86, 648, 38, 0, 1) else (bif Nat.blt i 38 then (653, 86, 652, 39, 0, 1) else (313, 87, 312, 0, 0, 0))) else (bif Nat.blt i 40 then (676, 87, 675, 41, 0, 2) else (bif Nat.blt i 41 then (383, 87, 382, 0, 0, 1) else (391, 87, 390, 2, 0, 2))))))) else (bif Nat.blt i 63 then (bif Nat.blt i 52 then (bif Nat.blt i 47 then (bif Nat.blt i 44 then (bif Nat.blt i 43 then (688, 87, 687, 42, 0, 1) else (104, 80, 103, 0, 0, 0)) else (bif Nat.blt i 45 then (420, 80, 419, 6, 0, 1) else (bif Nat.blt i 46 then (401, 80, 400, 3, 0, 3) else (404, 80, 403, 0, 1, 1)))) else (bif Nat.blt i 49 then (bif Nat.blt i 48 then (96, 79, 95, 0, 0, 0) else (370, 79, 368, 369, 0, 4)) else (bif Nat.blt i 50 then (416, 79, 414, 415, 0, 2) else (bif Nat.blt i 51 then (424, 79, 422, 423, 0, 3) else (435, 79, 433, 434, 0, 2))))) else (bif Nat.blt i 57 then (bif Nat.blt i 54 then (bif Nat.blt i 53 then (443, 79, 441, 442, 0, 2) else (460, 79, 458, 459, 0, 2)) else (bif Nat.blt i 55 then (505, 79, 503, 504, 0, 2) else (bif Nat.blt i 56 then (513, 79, 511, 512, 0, 1) else (522, 79, 520, 521, 0, 1)))) else (bif Nat.blt i 60 then (bif Nat.blt i 58 then (531, 79, 529, 530, 0, 2) else (bif Nat.blt i 59 then (539, 79, 537, 538, 0, 2) else (572, 79, 570, 571, 0, 3))) else (bif Nat.blt i 61 then (580, 79, 578, 579, 0, 3) else (bif Nat.blt i 62 then (588, 79, 586, 587, 0, 3) else (597, 79, 595, 596, 0, 1)))))) else (bif Nat.blt i 73 then (bif Nat.blt i 68 then (bif Nat.blt i 65 then (bif Nat.blt i 64 then (601, 79, 599, 600, 0, 0) else (610, 79, 608, 609, 0, 1)) else (bif Nat.blt i 66 then (625, 79, 623, 624, 0, 1) else (bif Nat.blt i 67 then (636, 79, 634, 635, 0, 0) else (661, 79, 659, 660, 0, 2)))) else (bif Nat.blt i 70 then (bif Nat.blt i 69 then (672, 79, 670, 671, 0, 3) else (680, 79, 678, 679, 0, 1)) else (bif Nat.blt i 71 then (684, 79, 682, 683, 0, 3) else (bif Nat.blt i 72 then (692, 79, 690, 691, 0, 3) else (696, 79, 694, 695, 0, 5))))) else (bif Nat.blt i 78 then (bif Nat.blt i 75 then (bif Nat.blt i 74 then (701, 79, 699, 700, 0, 1) else (721, 79, 719, 720, 0, 1)) else (bif Nat.blt i 76 then (725, 79, 723, 724, 0, 2) else (bif Nat.blt i 77 then (729, 79, 727, 728, 0, 0) else (733, 79, 731, 732, 0, 0)))) else (bif Nat.blt i 81 then (bif Nat.blt i 79 then (737, 79, 735, 736, 0, 1) else (bif Nat.blt i 80 then (376, 79, 375, 0, 1, 3) else (373, 79, 372, 0, 1, 1))) else (bif Nat.blt i 82 then (379, 79, 378, 0, 1, 1) else (bif Nat.blt i 83 then (427, 79, 426, 0, 1, 1) else (463, 79, 462, 0, 1, 1)))))))) else (bif Nat.blt i 126 then (bif Nat.blt i 105 then (bif Nat.blt i 94 then (bif Nat.blt i 89 then (bif Nat.blt i 86 then (bif Nat.blt i 85 then (387, 79, 386, 1, 0, 1) else (535, 79, 534, 0, 1, 2)) else (bif Nat.blt i 87 then (412, 79, 411, 5, 0, 0) else (bif Nat.blt i 88 then (467, 79, 466, 12, 0, 0) else (576, 79, 575, 30, 0, 2)))) else (bif Nat.blt i 91 then (bif Nat.blt i 90 then (614, 79, 613, 34, 0, 2) else (709, 79, 708, 44, 0, 1)) else (bif Nat.blt i 92 then (717, 79, 716, 46, 0, 1) else (bif Nat.blt i 93 then (713, 79, 712, 45, 0, 1) else (705, 79, 704, 43, 0, 1))))) else (bif Nat.blt i 99 then (bif Nat.blt i 96 then (bif Nat.blt i 95 then (394, 79, 393, 0, 1, 3) else (397, 79, 396, 0, 1, 2)) else (bif Nat.blt i 97 then (742, 88, 741, 0, 0, 0) else (bif Nat.blt i 98 then (864, 88, 863, 0, 1, 3) else (1002, 88, 1001, 0, 1, 0)))) else (bif Nat.blt i 102 then (bif Nat.blt i 100 then (974, 88, 973, 0, 1, 2) else (bif Nat.blt i 101 then (1006, 88, 1005, 0, 1, 3) else (868, 88, 867, 47, 0, 1))) else (bif Nat.blt i 103 then (873, 88, 872, 48, 0, 1) else (bif Nat.blt i 104 then (1104, 88, 1103, 76, 0, 1) else (901, 88, 900, 53, 0, 1)))))) else (bif Nat.blt i 115 then (bif Nat.blt i 110 then (bif Nat.blt i 107 then (bif Nat.blt i 106 then (884, 88, 883, 50, 0, 2) else (888, 88, 887, 51, 0, 3)) else (bif Nat.blt i 108 then (893, 88, 892, 52, 0, 2) else (bif Nat.blt i 109 then (880, 88, 879, 49, 0, 2) else (857, 88, 855, 856, 0, 4)))) else (bif Nat.blt i 112 then (bif Nat.blt i 111 then (897, 88, 895, 896, 0, 2) else (915, 88, 914, 54, 0, 1)) else (bif Nat.blt i 113 then (905, 88, 903, 904, 0, 3) else (bif Nat.blt i 114 then (911, 88, 909, 910, 0, 2) else (931, 88, 930, 57, 0, 2))))) else (bif Nat.blt i 120 then (bif Nat.blt i 117 then (bif Nat.blt i 116 then (927, 88, 926, 56, 0, 3) else (923, 88, 922, 55, 0, 2)) else (bif Nat.blt i 118 then (919, 88, 917, 918, 0, 2) else (bif Nat.blt i 119 then (951, 88, 950, 60, 0, 0) else (947, 88, 946, 59, 0, 0)))) else (bif Nat.blt i 123 then (bif Nat.blt i 121 then (963, 88, 962, 63, 0, 1) else (bif Nat.blt i 122 then (959, 88, 958, 62, 0, 2) else (955, 88, 954, 61, 0, 1))) else (bif Nat.blt i 124 then (943, 88, 942, 58, 0, 1) else (bif Nat.blt i 125 then (971, 88, 970, 64, 0, 1) else (987, 88, 986, 66, 0, 0))))))) else (bif Nat.blt i 147 then (bif Nat.blt i 136 then (bif Nat.blt i 131 then (bif Nat.blt i 128 then (bif Nat.blt i 127 then (983, 88, 982, 65, 0, 0) else (995, 88, 994, 67, 0, 1)) else (bif Nat.blt i 129 then (938, 88, 937, 0, 1, 1) else (bif Nat.blt i 130 then (935, 88, 933, 934, 0, 2) else (967, 88, 965, 966, 0, 2)))) else (bif Nat.blt i 133 then (bif Nat.blt i 132 then (978, 88, 976, 977, 0, 1) else (991, 88, 989, 990, 0, 1)) else (bif Nat.blt i 134 then (999, 88, 997, 998, 0, 2) else (bif Nat.blt i 135 then (1015, 88, 1014, 68, 0, 0) else (1023, 88, 1022, 70, 0, 0))))) else (bif Nat.blt i 141 then (bif Nat.blt i 138 then (bif Nat.blt i 137 then (1019, 88, 1018, 69, 0, 0) else (1010, 88, 1008, 1009, 0, 2)) else (bif Nat.blt i 139 then (1027, 88, 1025, 1026, 0, 3) else (bif Nat.blt i 140 then (1032, 88, 1030, 1031, 0, 3) else (1036, 88, 1034, 1035, 0, 3)))) else (bif Nat.blt i 144 then (bif Nat.blt i 142 then (1041, 88, 1039, 1040, 0, 1) else (bif Nat.blt i 143 then (1049, 88, 1048, 71, 0, 0) else (1045, 88, 1043, 1044, 0, 0))) else (bif Nat.blt i 145 then (1053, 88, 1051, 1052, 0, 1) else (bif Nat.blt i 146 then (1060, 88, 1059, 0, 1, 1) else (1057, 88, 1055, 1056, 0, 1)))))) else (bif Nat.blt i 158 then (bif Nat.blt i 152 then (bif Nat.blt i 149 then (bif Nat.blt i 148 then (1076, 88, 1075, 74, 0, 1) else (1072, 88, 1071, 73, 0, 1)) else (bif Nat.blt i 150 then (1068, 88, 1067, 72, 0, 0) else (bif Nat.blt i 151 then (1064, 88, 1062, 1063, 0, 0) else (1080, 88, 1078, 1079, 0, 2)))) else (bif Nat.blt i 155 then (bif Nat.blt i 153 then (860, 88, 859, 0, 1, 1) else (bif Nat.blt i 154 then (1084, 88, 1082, 1083, 0, 3) else (1088, 88, 1086, 1087, 0, 1))) else (bif Nat.blt i 156 then (1096, 88, 1095, 75, 0, 2) else (bif Nat.blt i 157 then (1092, 88, 1090, 1091, 0, 3) else (1100, 88, 1098, 1099, 0, 3))))) else (bif Nat.blt i 163 then (bif Nat.blt i 160 then (bif Nat.blt i 159 then (876, 88, 875, 0, 1, 3) else (1108, 88, 1106, 1107, 0, 5)) else (bif Nat.blt i 161 then (1116, 88, 1115, 77, 0, 1) else (bif Nat.blt i 162 then (1112, 88, 1110, 1111, 0, 1) else (1120, 88, 1118, 1119, 0, 1)))) else (bif Nat.blt i 166 then (bif Nat.blt i 164 then (1124, 88, 1122, 1123, 0, 2) else (bif Nat.blt i 165 then (1128, 88, 1126, 1127, 0, 0) else (1132, 88, 1130, 1131, 0, 0))) else (bif Nat.blt i 167 then (1136, 88, 1134, 1135, 0, 1) else (bif Nat.blt i 168 then (628, 91, 627, 0, 1, 1) else (0, 0, 0, 0, 0, 0)))))))))
end
section
/-! The abstract machine: heap = (kinds and lengths, references, ints, longs); cells are numbered as they are made. A null on the stack or in the locals stands for the law's script. -/
abbrev zH : Type := List (Nat × Nat) × List (List (Option Nat)) × (Nat → Nat → Int32) × (Nat → Int64)
abbrev zLs : Type := List (Option Value)
def zsr (h : zH) (k f : Nat) : Option Nat := ((h.2.1[k]?).bind (fun r => r[f]?)).join
def zin (i : Int32) (n : Nat) : Bool := !(decide (i < 0)) && Nat.blt i.toNatClampNeg n
def zu (g : Nat → Nat → Int32) (k j : Nat) (x : Int32) : Nat → Nat → Int32 := fun a b => if a = k then (if b = j then x else g a b) else g a b
def zuJ (g : Nat → Int64) (k : Nat) (x : Int64) : Nat → Int64 := fun a => if a = k then x else g a
def zcp (g : Nat → Nat → Int32) (k0 k1 sp dp n : Nat) : Nat → Nat → Int32 := fun a b => if a = k1 then (if dp ≤ b ∧ b < dp + n then g k0 (sp + (b - dp)) else g a b) else g a b
def zusr (r : List (List (Option Nat))) (k f v : Nat) : List (List (Option Nat)) := r.modify k (fun q => q.set f (some v))
/-- the type of field f of an object of kind c -/
def zTy (c f : Nat) : FieldType := bif Nat.blt c 5 then (bif Nat.blt c 2 then (bif Nat.blt c 1 then tyX0 f else tyX1 f) else (bif Nat.blt c 3 then tyX2 f else (bif Nat.blt c 4 then tyX3 f else tyX4 f))) else (bif Nat.blt c 7 then (bif Nat.blt c 6 then tyX5 f else tyX6 f) else (bif Nat.blt c 8 then tyX7 f else (bif Nat.blt c 9 then tyX8 f else tyX9 f)))
def zTT (c : Nat) : u_T := bif Nat.blt c 5 then (bif Nat.blt c 2 then (bif Nat.blt c 1 then TX0 else TX1) else (bif Nat.blt c 3 then TX2 else (bif Nat.blt c 4 then TX3 else TX4))) else (bif Nat.blt c 7 then (bif Nat.blt c 6 then TX5 else TX6) else (bif Nat.blt c 8 then TX7 else (bif Nat.blt c 9 then TX8 else TX9)))
/-- how many fields an object of kind c has -/
def zNF (c : Nat) : Nat := bif Nat.blt c 5 then (bif Nat.blt c 2 then (bif Nat.blt c 1 then 6 else 5) else (bif Nat.blt c 3 then 7 else (bif Nat.blt c 4 then 7 else 4))) else (bif Nat.blt c 7 then (bif Nat.blt c 6 then 8 else 4) else (bif Nat.blt c 8 then 3 else (bif Nat.blt c 9 then 11 else 36)))
def zFty (t : FieldType) : Nat := match t with
  | .int => 0
  | .boolean => 1
  | .long => 2
  | _ => 3
def zCon (c : Nat) (ins : Instr) (len : Nat) : Option Value := match ins, len with
  | .iconst n, 1 => some (.int (Int32.ofInt n))
  | .bipush n, 2 => some (.int (Int8.ofInt n).toInt32)
  | .sipush n, 3 => some (.int (Int16.ofInt n).toInt32)
  | .lconst n, 1 => some (.long (Int64.ofNat (n : Nat)))
  | .ldc k, 2 => (zK3.lookup (c, k)).map (fun q => .int q.1)
  | .ldc_w k, 3 => (zK3.lookup (c, k)).map (fun q => .int q.1)
  | .ldc2_w k, 3 => (zK6.lookup (c, k)).map (fun q => .long q.1)
  | _, _ => none
def zLd (ins : Instr) (len : Nat) : Option (Nat × Nat) := match ins, len with
  | .iload k, 2 => some (k, 0)
  | .iload_n k, 1 => some (k, 0)
  | .aload k, 2 => some (k, 1)
  | .aload_n k, 1 => some (k, 1)
  | .lload k, 2 => some (k, 2)
  | .lload_n k, 1 => some (k, 2)
  | _, _ => none
def zGet (ls : zLs) (k kd : Nat) : Option Value := match kd, ls[k]? with
  | 0, some (some (.int x)) => some (.int x)
  | 1, some (some (.ref a)) => some (.ref a)
  | 1, some (some .null) => some .null
  | 2, some (some (.long x)) => (match ls[k + 1]? with
    | some none => some (.long x)
    | _ => none)
  | _, _ => none
def zSt (ins : Instr) (len : Nat) : Option (Nat × Nat) := match ins, len with
  | .istore k, 2 => some (k, 0)
  | .istore_n k, 1 => some (k, 0)
  | .astore k, 2 => some (k, 1)
  | .astore_n k, 1 => some (k, 1)
  | .lstore k, 2 => some (k, 2)
  | .lstore_n k, 1 => some (k, 2)
  | _, _ => none
def zPut (ls : zLs) (k kd : Nat) (v : Value) : Option zLs := match kd, v with
  | 0, .int x => bif Nat.blt k ls.length then some (ls.set k (some (.int x))) else none
  | 1, .ref a => bif Nat.blt k ls.length then some (ls.set k (some (.ref a))) else none
  | 1, .null => bif Nat.blt k ls.length then some (ls.set k (some .null)) else none
  | 2, .long x => bif Nat.blt (k + 1) ls.length then some ((ls.set k (some (.long x))).set (k + 1) none) else none
  | _, _ => none
def zO1 (ins : Instr) (v : Value) : Option Value := match ins, v with
  | .ineg, .int x => some (.int (-x))
  | .i2l, .int x => some (.long x.toInt64)
  | .i2b, .int x => some (.int x.toInt8.toInt32)
  | .i2s, .int x => some (.int x.toInt16.toInt32)
  | _, _ => none
def zO2 (ins : Instr) (v w : Value) : Option Value := match ins, v, w with
  | .iadd, .int y, .int x => some (.int (x + y))
  | .isub, .int y, .int x => some (.int (x - y))
  | .imul, .int y, .int x => some (.int (x * y))
  | .idiv, .int y, .int x => bif decide (y = 0) then none else some (.int (x / y))
  | .irem, .int y, .int x => bif decide (y = 0) then none else some (.int (x - x / y * y))
  | .iand, .int y, .int x => some (.int (x &&& y))
  | .ior, .int y, .int x => some (.int (x ||| y))
  | .ishl, .int y, .int x => some (.int (x <<< (y &&& 31)))
  | .ishr, .int y, .int x => some (.int (x >>> (y &&& 31)))
  | .iushr, .int y, .int x => some (.int (x.toUInt32 >>> (y.toUInt32 &&& Int32.toUInt32 31)).toInt32)
  | .ladd, .long y, .long x => some (.long (x + y))
  | .lsub, .long y, .long x => some (.long (x - y))
  | .ldiv, .long y, .long x => bif decide (y = 0) then none else some (.long (x / y))
  | .lrem, .long y, .long x => bif decide (y = 0) then none else some (.long (x - x / y * y))
  | .land, .long y, .long x => some (.long (x &&& y))
  | .lor, .long y, .long x => some (.long (x ||| y))
  | .lshl, .int y, .long x => some (.long (x <<< (y.toInt64 &&& 63)))
  | .lshr, .int y, .long x => some (.long (x >>> (y.toInt64 &&& 63)))
  | .lcmp, .long y, .long x => some (.int (lg_cmp x y))
  | _, _, _ => none
def zOp (ins : Instr) (len : Nat) (st : List Value) : Option (List Value) := match ins, len, st with
  | .ineg, 1, v :: st' => (zO1 .ineg v).map (fun v => v :: st')
  | .i2l, 1, v :: st' => (zO1 .i2l v).map (fun v => v :: st')
  | .i2b, 1, v :: st' => (zO1 .i2b v).map (fun v => v :: st')
  | .i2s, 1, v :: st' => (zO1 .i2s v).map (fun v => v :: st')
  | ins, 1, v :: w :: st' => (zO2 ins v w).map (fun v => v :: st')
  | _, _, _ => none
def zTgt (pc : Nat) (off : Int) : Option Nat := match (pc : Int) + off with
  | .ofNat t => some t
  | .negSucc _ => none
def zCmp (q : Jvm.ClassFile.Cond) (x y : Int32) : Bool := match q with
  | .eq => decide (x = y)
  | .ne => !(decide (x = y))
  | .lt => decide (x < y)
  | .ge => decide (y ≤ x)
  | .gt => decide (y < x)
  | .le => decide (x ≤ y)
def zSw (ins : Instr) (x : Int32) : Option Int := match ins with
  | .tableswitch d lo hi offs => bif decide (x.toInt < lo) || decide (hi < x.toInt) then some d else offs[(x.toInt - lo).toNat]?
  | .lookupswitch d ps => bif (ps.toList.zip (ps.toList.drop 1)).all (fun (a, next) => a.1 < next.1) then some (Op.lookupswitch.offset ps.toList d x.toInt) else none
  | _ => none
def zBr (pc : Nat) (ins : Instr) (len : Nat) (st : List Value) : Option (Nat × List Value) := match ins, len, st with
  | .goto off, 3, st => (zTgt pc off).map (fun t => (t, st))
  | .if_icmp q off, 3, .int y :: .int x :: st => (zTgt pc off).map (fun t => (bif zCmp q x y then t else pc + 3, st))
  | .ifCond q off, 3, .int x :: st => (zTgt pc off).map (fun t => (bif zCmp q x 0 then t else pc + 3, st))
  | .tableswitch d lo hi offs, _, .int x :: st => (zSw (.tableswitch d lo hi offs) x).bind (fun o => (zTgt pc o).map (fun t => (t, st)))
  | .lookupswitch d ps, _, .int x :: st => (zSw (.lookupswitch d ps) x).bind (fun o => (zTgt pc o).map (fun t => (t, st)))
  | _, _, _ => none
/-- what a field holds -/
def zFV (h : zH) (c k f : Nat) : Option Value := match zFty (zTy c f) with
  | 0 => some (.int (h.2.2.1 k f))
  | 1 => some (.int (h.2.2.1 k f))
  | 2 => some (.long (h.2.2.2 k))
  | _ => (zsr h k f).map .ref
/-- a field gets a value -/
def zFP (h : zH) (c k f : Nat) (v : Value) : Option zH := match zFty (zTy c f), v with
  | 0, .int x => some (h.1, h.2.1, zu h.2.2.1 k f x, h.2.2.2)
  | 1, .int x => bif decide (x = 0) || decide (x = 1) then some (h.1, h.2.1, zu h.2.2.1 k f x, h.2.2.2) else none
  | 2, .long x => some (h.1, h.2.1, h.2.2.1, zuJ h.2.2.2 k x)
  | 3, .ref a => bif Nat.blt f ((h.2.1[k]?).getD []).length then some (h.1, zusr h.2.1 k f a, h.2.2.1, h.2.2.2) else none
  | _, _ => none
def zMem (i L : Nat) (xs : Nat → Int32) (ins : Instr) (len : Nat) (st : List Value) (h : zH) : Option (List Value × zH) := match ins, len, st with
  | .getfield idx, 3, .ref k :: st => (match zFS.lookup (zC i, idx), h.1[k]? with
    | some (c, f, _), some (t, n) => bif Nat.beq t c && Nat.beq n (zNF c) then (zFV h c k f).map (fun v => (v :: st, h)) else none
    | _, _ => none)
  | .putfield idx, 3, v :: .ref k :: st => (match zFS.lookup (zC i, idx), h.1[k]? with
    | some (c, f, nest, _), some (t, n) => bif Nat.beq t c && Nat.beq n (zNF c) && (!(zTT c f).2.2.2 || (decide ((zY i).name = "<init>") && Nat.beq c (zC i) && Nat.beq nest 0)) then (zFP h c k f v).map (fun h => (st, h)) else none
    | _, _ => none)
  | .iaload, 1, .int j :: .ref k :: st => (match h.1[k]? with
    | some (10, n) => bif zin j n then some (.int (h.2.2.1 k j.toNatClampNeg) :: st, h) else none
    | _ => none)
  | .iaload, 1, .int j :: .null :: st => bif zin j L then some (.int (xs j.toNatClampNeg) :: st, h) else none
  | .arraylength, 1, .null :: st => some (.int (Int32.ofNat L) :: st, h)
  | .iastore, 1, .int x :: .int j :: .ref k :: st => (match h.1[k]? with
    | some (10, n) => bif zin j n then some (st, (h.1, h.2.1, zu h.2.2.1 k j.toNatClampNeg x, h.2.2.2)) else none
    | _ => none)
  | .baload, 1, .int j :: .ref k :: st => (match h.1[k]? with
    | some (11, n) => bif zin j n then some (.int (h.2.2.1 k j.toNatClampNeg) :: st, h) else none
    | _ => none)
  | .bastore, 1, .int x :: .int j :: .ref k :: st => (match h.1[k]? with
    | some (11, n) => bif zin j n && (decide (x = 0) || decide (x = 1)) then some (st, (h.1, h.2.1, zu h.2.2.1 k j.toNatClampNeg x, h.2.2.2)) else none
    | _ => none)
  | .aaload, 1, .int j :: .ref k :: st => (match h.1[k]? with
    | some (12, n) => bif zin j n then (zsr h k j.toNatClampNeg).map (fun a => (.ref a :: st, h)) else none
    | some (13, n) => bif zin j n then (zsr h k j.toNatClampNeg).map (fun a => (.ref a :: st, h)) else none
    | _ => none)
  | .aastore, 1, .ref a :: .int j :: .ref k :: st => (match h.1[k]?, h.1[a]? with
    | some (12, n), some (1, 5) => bif zin j n && Nat.blt j.toNatClampNeg ((h.2.1[k]?).getD []).length then some (st, (h.1, zusr h.2.1 k j.toNatClampNeg a, h.2.2.1, h.2.2.2)) else none
    | some (13, n), some (6, 4) => bif zin j n && Nat.blt j.toNatClampNeg ((h.2.1[k]?).getD []).length then some (st, (h.1, zusr h.2.1 k j.toNatClampNeg a, h.2.2.1, h.2.2.2)) else none
    | _, _ => none)
  | .invokespecial idx, 3, .ref _ :: st => (match zMS.lookup (zC i, idx) with
    | some (_, 6, _) => bif Nat.ble 1 (zFr i) && Nat.ble 40 (zLo i) && Nat.ble ((st.map (fun v : Value => v.category)).sum) 8 then some (st, h) else none
    | _ => none)
  | .invokestatic idx, 3, .int n :: .int dp :: .ref k1 :: .int sp :: .ref k0 :: st => (match zMS.lookup (zC i, idx), h.1[k0]?, h.1[k1]? with
    | some (_, 7, _), some (10, n0), some (10, n1) => bif Nat.ble 1 (zFr i) && Nat.ble 40 (zLo i) && Nat.ble ((st.map (fun v : Value => v.category)).sum) 8 && !(decide (sp < 0)) && !(decide (dp < 0)) && !(decide (n < 0)) && Nat.ble (sp.toNatClampNeg + n.toNatClampNeg) n0 && Nat.ble (dp.toNatClampNeg + n.toNatClampNeg) n1 then some (st, (h.1, h.2.1, zcp h.2.2.1 k0 k1 sp.toNatClampNeg dp.toNatClampNeg n.toNatClampNeg, h.2.2.2)) else none
    | _, _, _ => none)
  | .invokestatic idx, 3, .int y :: .int x :: st => (match zMS.lookup (zC i, idx) with
    | some (_, 8, _) => bif Nat.ble 1 (zFr i) && Nat.ble 40 (zLo i) && Nat.ble ((st.map (fun v : Value => v.category)).sum) 8 then some (.int (if x < y then y else x) :: st, h) else none
    | some (_, 9, _) => bif Nat.ble 1 (zFr i) && Nat.ble 40 (zLo i) && Nat.ble ((st.map (fun v : Value => v.category)).sum) 8 then some (.int (if y < x then y else x) :: st, h) else none
    | _ => none)
  | _, _, _ => none
/-- every reference is one of a made cell -/
def zWv (n : Nat) (v : Value) : Bool := match v with
  | .ref a => Nat.blt a n
  | _ => true
def zWo (n : Nat) (v : Option Value) : Bool := match v with
  | some v => zWv n v
  | none => true
def zWr (n : Nat) (r : List (List (Option Nat))) : Bool := r.all (fun q => q.all (fun o => match o with
  | some a => Nat.blt a n
  | none => true))
def zWf (n : Nat) (ls : zLs) (st : List Value) (r : List (List (Option Nat))) : Bool := ls.all (zWo n) && st.all (zWv n) && zWr n r && Nat.beq r.length n
def zNew (h : zH) (t n : Nat) : zH := (h.1 ++ [(t, n)], h.2.1 ++ [bif Nat.beq t 10 || Nat.beq t 11 then [] else List.replicate n none], (fun a b => if a = h.1.length then 0 else h.2.2.1 a b), (fun a => if a = h.1.length then 0 else h.2.2.2 a))
def zAlI (i : Nat) (ins : Instr) (len : Nat) (st : List Value) (h : zH) : Option (List Value × zH) := match ins, len, st with
  | .new idx, 3, st => (match zCS.lookup (zC i, idx) with
    | some (c, _) => some (.ref h.1.length :: st, zNew h c (zNF c))
    | none => none)
  | .newarray .int, 2, .int n :: st => bif !(decide (n < 0)) && Nat.ble n.toNatClampNeg 500 then some (.ref h.1.length :: st, zNew h 10 n.toNatClampNeg) else none
  | .newarray .boolean, 2, .int n :: st => bif !(decide (n < 0)) && Nat.ble n.toNatClampNeg 500 then some (.ref h.1.length :: st, zNew h 11 n.toNatClampNeg) else none
  | .anewarray idx, 3, .int n :: st => bif !(decide (n < 0)) && Nat.ble n.toNatClampNeg 500 then (match zCS.lookup (zC i, idx) with
    | some (1, _) => some (.ref h.1.length :: st, zNew h 12 n.toNatClampNeg)
    | some (6, _) => some (.ref h.1.length :: st, zNew h 13 n.toNatClampNeg)
    | _ => none) else none
  | _, _, _ => none
def zAlC (i n0 : Nat) (ls : zLs) (st : List Value) (h : zH) : Bool := zWf h.1.length ls st h.2.1 && Nat.blt h.1.length (n0 + zMc i)
def zAl (i n0 : Nat) (ins : Instr) (len : Nat) (ls : zLs) (st : List Value) (h : zH) : Option (List Value × zH) := match ins with
  | .new idx => bif zAlC i n0 ls st h then zAlI i (.new idx) len st h else none
  | .newarray t => bif zAlC i n0 ls st h then zAlI i (.newarray t) len st h else none
  | .anewarray idx => bif zAlC i n0 ls st h then zAlI i (.anewarray idx) len st h else none
  | _ => none
def zArgs (vs : List Value) (n : Nat) : zLs := let f := vs.flatMap (fun v => if v.category = 2 then [some v, none] else [some v]); f ++ List.replicate (n - f.length) none
/-- a call: the method, its arguments, the stack below -/
def zSite (i : Nat) (ins : Instr) (len : Nat) : Option (Nat × Nat) := match ins, len with
  | .invokevirtual idx, 3 => (zMS.lookup (zC i, idx)).bind (fun q => bif Nat.blt q.2.1 2 then some (q.1, 1) else none)
  | .invokestatic idx, 3 => (zMS.lookup (zC i, idx)).bind (fun q => bif Nat.beq q.2.1 2 then some (q.1, 0) else none)
  | .invokespecial idx, 3 => (zMS.lookup (zC i, idx)).bind (fun q => bif Nat.beq q.2.1 4 || Nat.beq q.2.1 5 then some (q.1, 2) else none)
  | _, _ => none
def zNA (j kd : Nat) : Nat := (zMD j).2.2.2.2.2 + (bif Nat.beq kd 0 then 0 else 1)
def zRcv (j : Nat) (h : zH) (as : List Value) : Bool := match as with
  | .ref k :: _ => (match h.1[k]? with
    | some (t, _) => Nat.beq t (zC j)
    | none => false)
  | _ => false
def zCan (i j n0 na : Nat) (ls : zLs) (st : List Value) (h : zH) : Bool := Nat.ble na st.length && Nat.ble (h.1.length + zMc j) (n0 + zMc i) && Nat.ble (zFr j + 1) (zFr i) && Nat.ble (8 + (zML j + 11) + zLo j) (zLo i) && (Nat.beq (zMc j) 0 || zWf h.1.length ls st h.2.1) && Nat.ble (((st.drop na).map (fun v : Value => v.category)).sum) 8
def zCall (i n0 : Nat) (ins : Instr) (len : Nat) (ls : zLs) (st : List Value) (h : zH) : Option (Nat × List Value × List Value) := match zSite i ins len with
  | some (j, kd) => bif zCan i j n0 (zNA j kd) ls st h && Nat.ble (zArgs (st.take (zNA j kd)).reverse 0).length (zML j) && (Nat.beq kd 0 || zRcv j h (st.take (zNA j kd)).reverse) then some (j, (st.take (zNA j kd)).reverse, st.drop (zNA j kd)) else none
  | none => none
def zRt (i n0 n : Nat) (ins : Instr) (len : Nat) (st : List Value) : Option (Option Value) := bif Nat.beq n (n0 + zMc i) || Nat.beq i zLaw then (match zRet i, ins, len, st with
  | some .int, .ireturn, 1, [.int x] => some (some (.int x))
  | some .boolean, .ireturn, 1, [.int x] => bif decide (x = 0) || decide (x = 1) then some (some (.int x)) else none
  | some .long, .lreturn, 1, [.long x] => some (some (.long x))
  | some (.object _), .areturn, 1, [.ref a] => some (some (.ref a))
  | none, .return_, 1, [] => some none
  | _, _, _, _ => none) else none
abbrev zRes : Type := (Nat × zLs × List Value × zH) ⊕ (Option Value) ⊕ (Nat × List Value × List Value)
def zStep (i n0 L : Nat) (xs : Nat → Int32) (ins : Instr) (len pc : Nat) (ls : zLs) (st : List Value) (h : zH) : Option zRes :=
  match zCon (zC i) ins len with
  | some v => some (.inl (pc + len, ls, v :: st, h))
  | none => match zLd ins len with
    | some (k, kd) => (zGet ls k kd).map (fun v => .inl (pc + len, ls, v :: st, h))
    | none => match zSt ins len, st with
      | some (k, kd), v :: st' => (zPut ls k kd v).map (fun ls' => .inl (pc + len, ls', st', h))
      | some _, [] => none
      | none, _ => match ins, len, st with
        | .iinc k n, 3, st => (match ls[k]? with
          | some (some (.int x)) => some (.inl (pc + 3, ls.set k (some (.int (x + Int32.ofInt n))), st, h))
          | _ => none)
        | .dup, 1, .int x :: st => some (.inl (pc + 1, ls, .int x :: .int x :: st, h))
        | .dup, 1, .ref x :: st => some (.inl (pc + 1, ls, .ref x :: .ref x :: st, h))
        | .dup2, 1, .int x :: .ref y :: st => some (.inl (pc + 1, ls, .int x :: .ref y :: .int x :: .ref y :: st, h))
        | .pop, 1, .int _ :: st => some (.inl (pc + 1, ls, st, h))
        | ins, len, st => match zOp ins len st with
          | some st' => some (.inl (pc + 1, ls, st', h))
          | none => match zBr pc ins len st with
            | some (t, st') => some (.inl (t, ls, st', h))
            | none => match zMem i L xs ins len st h with
              | some (st', h') => some (.inl (pc + len, ls, st', h'))
              | none => match zAl i n0 ins len ls st h with
                | some (st', h') => some (.inl (pc + len, ls, st', h'))
                | none => match zRt i n0 h.1.length ins len st with
                  | some v => some (.inr (.inl v))
                  | none => match zCall i n0 ins len ls st h with
                    | some q => some (.inr (.inr q))
                    | none => none
def ev (L : Nat) (xs : Nat → Int32) : Nat → Nat → Nat → Nat → zLs → List Value → zH → Option (Option Value × zH)
  | 0, _, _, _, _, _, _ => none
  | n + 1, i, n0, pc, ls, st, h => match decode (zB i) pc with
    | .ok (ins, len) => (match zStep i n0 L xs ins len pc ls st h with
      | some (.inl (pc', ls', st', h')) => ev L xs n i n0 pc' ls' st' h'
      | some (.inr (.inl v)) => some (v, h)
      | some (.inr (.inr (j, as, rest))) => (match ev L xs n j h.1.length 0 (zArgs as (zML j)) [] h with
        | some (v, h') => ev L xs n i n0 (pc + 3) ls (v.toList ++ rest) h'
        | none => none)
      | none => none)
    | _ => none
end
section
/-! What the tables say of the sites: decided by program. -/
def zw (p : Nat) (w : Cond) : Bool := decide (lw_tbl[p]? = some w) && goodWord w
def zwn (p : Nat) (w : Cond) : Bool := decide (lw_tbl[p]? = some w)
def zG : List Cond := lw_tbl.filter goodWord
theorem zwn_in {p : Nat} {w : Cond} (h : zwn p w = true) : w ∈ lw_tbl := List.mem_of_getElem? (of_decide_eq_true h)
theorem zw_in {p : Nat} {w : Cond} (h : zw p w = true) : w ∈ zG := by
  unfold zw at h
  rw [Bool.and_eq_true] at h
  exact List.mem_filter.mpr ⟨List.mem_of_getElem? (of_decide_eq_true h.1), h.2⟩
theorem zG_good {w : Cond} (h : w ∈ zG) : goodWord w = true := (List.mem_filter.mp h).2
theorem zG_in {w : Cond} (h : w ∈ zG) : w ∈ lw_tbl := (List.mem_filter.mp h).1
theorem zlook {β : Type} {a : Nat × Nat} {v : β} : ∀ {t : List ((Nat × Nat) × β)}, t.lookup a = some v → (a, v) ∈ t
  | [], h => by cases h
  | (a', v') :: t, h => by
    rw [List.lookup_cons] at h
    cases q : (a == a') with
    | true =>
      rw [q] at h
      cases h
      rw [eq_of_beq q]
      exact List.mem_cons_self
    | false =>
      rw [q] at h
      exact List.mem_cons_of_mem _ (zlook h)
theorem zK3_ok : ∀ e ∈ zK3, zw e.2.2 (.constant (zCn e.1.1) e.1.2 e.2.1) = true := by decide +kernel
theorem zK6_ok : ∀ e ∈ zK6, zw e.2.2 (.constantLong (zCn e.1.1) e.1.2 e.2.1) = true := by decide +kernel
def zFok (e : (Nat × Nat) × Nat × Nat × Nat × Nat) : Bool := let C := zCn e.2.1; let t := zTT e.2.1 e.2.2.1
  Nat.blt e.2.1 10 && Nat.blt e.2.2.1 (zNF e.2.1) && decide (t.1 = C) && (bif Nat.beq e.2.2.2.1 0 then zw e.2.2.2.2 (.fieldLink (zCn e.1.1) e.1.2 C t.2.1 t.2.2.1) else zwn e.2.2.2.2 (.fieldLinkNest (zCn e.1.1) e.1.2 C t.2.1 t.2.2.1 "BogTown"))
theorem zFS_ok : ∀ e ∈ zFS, zFok e = true := by decide +kernel
def zCok (e : (Nat × Nat) × Nat × Nat × Nat × Nat) : Bool := let C := zCn e.2.1
  Nat.blt e.2.1 10 && zw e.2.2.1 (.classLink (zCn e.1.1) e.1.2 C) && zw e.2.2.2.1 (.instantiable C (zNF e.2.1)) && zw e.2.2.2.2 (.initialized C)
theorem zCS_ok : ∀ e ∈ zCS, zCok e = true := by decide +kernel
def zMok (e : (Nat × Nat) × Nat × Nat × Nat) : Bool := let o := zCn e.1.1; let x := e.1.2; let j := e.2.1; let y := zY j; let p := e.2.2.2; let q := zMD j
  match e.2.2.1 with
  | 0 => Nat.blt j 168 && zw p (.methodLink o x y) && zw q.2.2.1 (.instanceMethod y) && zw q.2.2.2.1 (.selects y.cls y y)
  | 1 => Nat.blt j 168 && zwn p (.methodLinkNest o x y "BogTown") && zw q.2.2.1 (.instanceMethod y) && zw q.2.2.2.1 (.selects y.cls y y)
  | 2 => Nat.blt j 168 && zw p (.methodLink o x y) && zw q.2.2.1 (.static y)
  | 4 => Nat.blt j 168 && zw p (.methodLink o x y) && zw q.2.2.1 (.instanceMethod y) && decide (y.name = "<init>") && decide (zRet j = none)
  | 5 => Nat.blt j 168 && zwn p (.methodLinkNest o x y "BogTown") && zw q.2.2.1 (.instanceMethod y) && decide (y.name = "<init>") && decide (zRet j = none)
  | 6 => zw p (.methodLink o x objectInit) && zw 98 (.instanceMethod objectInit) && zw 99 (.code objectInit ⟨#[0xb1]⟩ 1 none)
  | 7 => zw p (.methodLink o x arraycopyName) && zw 546 (.native arraycopyName) && zw 545 (.static arraycopyName) && zw 89 (.initialized "java/lang/System")
  | 8 => zw p (.methodLink o x Lib.Math.max.name) && zw 620 (.static Lib.Math.max.name) && zw 90 (.initialized "java/lang/Math") && zw 621 (.code Lib.Math.max.name Lib.Math.max.code 2 (some .int))
  | 9 => zw p (.methodLink o x Lib.Math.min.name) && zw 667 (.static Lib.Math.min.name) && zw 90 (.initialized "java/lang/Math") && zw 668 (.code Lib.Math.min.name Lib.Math.min.code 2 (some .int))
  | _ => false
theorem zMS_ok : ∀ e ∈ zMS, zMok e = true := by decide +kernel
theorem zD1 : ∀ j ∈ List.range 168, zw (zMD j).2.1 (.initialized (zY j).cls) = true := by decide +kernel
theorem zD2 : ∀ j ∈ List.range 168, plainName (zY j).cls = true := by decide +kernel
theorem zD3 : ∀ j ∈ List.range 168, (!((zY j).cls == "java/lang/invoke/MethodHandle") && !((zY j).cls == "java/lang/invoke/VarHandle")) = true := by decide +kernel
theorem zD4 : ∀ j ∈ List.range 168, ((parseMethodDescriptor (zY j).desc).map (fun d => d.parameters.length) == some (zMD j).2.2.2.2.2) = true := by decide +kernel
theorem zD5 : ∀ j ∈ List.range 168, (zY j).cls = zCn (zC j) := by decide +kernel
theorem zCl_ok : ∀ k ∈ List.range 10, ∀ w ∈ u_ws (zCn k) (zTT k) (zNF k), w ∈ zG := by decide +kernel
theorem zAr_ok : zw 197 (.arrayClass .int) = true ∧ zw 853 (.arrayClass .boolean) = true ∧ zwn 107 (.arrayOver (.object "BogTown$House")) = true ∧ zwn 309 (.arrayOver (.object "BogTown$Sheet")) = true := by decide +kernel
theorem zOneJ : ∀ c ∈ List.range 10, ∀ f ∈ List.range (zNF c), ∀ g ∈ List.range (zNF c), zFty (zTy c f) = 2 → zFty (zTy c g) = 2 → f = g := by decide +kernel
end
section
set_option maxRecDepth 100000 in
theorem zCode_at : ∀ j : Nat, j < 168 → lw_tbl[(zMD j).1]? = some (.code (zY j) (zB j) (zML j) (zRet j))
  | 0, _ => rfl
  | 1, _ => rfl
  | 2, _ => rfl
  | 3, _ => rfl
  | 4, _ => rfl
  | 5, _ => rfl
  | 6, _ => rfl
  | 7, _ => rfl
  | 8, _ => rfl
  | 9, _ => rfl
  | 10, _ => rfl
  | 11, _ => rfl
  | 12, _ => rfl
  | 13, _ => rfl
  | 14, _ => rfl
  | 15, _ => rfl
  | 16, _ => rfl
  | 17, _ => rfl
  | 18, _ => rfl
  | 19, _ => rfl
  | 20, _ => rfl
  | 21, _ => rfl
  | 22, _ => rfl
  | 23, _ => rfl
  | 24, _ => rfl
  | 25, _ => rfl
  | 26, _ => rfl
  | 27, _ => rfl
  | 28, _ => rfl
  | 29, _ => rfl
  | 30, _ => rfl
  | 31, _ => rfl
  | 32, _ => rfl
  | 33, _ => rfl
  | 34, _ => rfl
  | 35, _ => rfl
  | 36, _ => rfl
  | 37, _ => rfl
  | 38, _ => rfl
  | 39, _ => rfl
  | 40, _ => rfl
  | 41, _ => rfl
  | 42, _ => rfl
  | 43, _ => rfl
  | 44, _ => rfl
  | 45, _ => rfl
  | 46, _ => rfl
  | 47, _ => rfl
  | 48, _ => rfl
  | 49, _ => rfl
  | 50, _ => rfl
  | 51, _ => rfl
  | 52, _ => rfl
  | 53, _ => rfl
  | 54, _ => rfl
  | 55, _ => rfl
  | 56, _ => rfl
  | 57, _ => rfl
  | 58, _ => rfl
  | 59, _ => rfl
  | 60, _ => rfl
  | 61, _ => rfl
  | 62, _ => rfl
  | 63, _ => rfl
  | 64, _ => rfl
  | 65, _ => rfl
  | 66, _ => rfl
  | 67, _ => rfl
  | 68, _ => rfl
  | 69, _ => rfl
  | 70, _ => rfl
  | 71, _ => rfl
  | 72, _ => rfl
  | 73, _ => rfl
  | 74, _ => rfl
  | 75, _ => rfl
  | 76, _ => rfl
  | 77, _ => rfl
  | 78, _ => rfl
  | 79, _ => rfl
  | 80, _ => rfl
  | 81, _ => rfl
  | 82, _ => rfl
  | 83, _ => rfl
  | 84, _ => rfl
  | 85, _ => rfl
  | 86, _ => rfl
  | 87, _ => rfl
  | 88, _ => rfl
  | 89, _ => rfl
  | 90, _ => rfl
  | 91, _ => rfl
  | 92, _ => rfl
  | 93, _ => rfl
  | 94, _ => rfl
  | 95, _ => rfl
  | 96, _ => rfl
  | 97, _ => rfl
  | 98, _ => rfl
  | 99, _ => rfl
  | 100, _ => rfl
  | 101, _ => rfl
  | 102, _ => rfl
  | 103, _ => rfl
  | 104, _ => rfl
  | 105, _ => rfl
  | 106, _ => rfl
  | 107, _ => rfl
  | 108, _ => rfl
  | 109, _ => rfl
  | 110, _ => rfl
  | 111, _ => rfl
  | 112, _ => rfl
  | 113, _ => rfl
  | 114, _ => rfl
  | 115, _ => rfl
  | 116, _ => rfl
  | 117, _ => rfl
  | 118, _ => rfl
  | 119, _ => rfl
  | 120, _ => rfl
  | 121, _ => rfl
  | 122, _ => rfl
  | 123, _ => rfl
  | 124, _ => rfl
  | 125, _ => rfl
  | 126, _ => rfl
  | 127, _ => rfl
  | 128, _ => rfl
  | 129, _ => rfl
  | 130, _ => rfl
  | 131, _ => rfl
  | 132, _ => rfl
  | 133, _ => rfl
  | 134, _ => rfl
  | 135, _ => rfl
  | 136, _ => rfl
  | 137, _ => rfl
  | 138, _ => rfl
  | 139, _ => rfl
  | 140, _ => rfl
  | 141, _ => rfl
  | 142, _ => rfl
  | 143, _ => rfl
  | 144, _ => rfl
  | 145, _ => rfl
  | 146, _ => rfl
  | 147, _ => rfl
  | 148, _ => rfl
  | 149, _ => rfl
  | 150, _ => rfl
  | 151, _ => rfl
  | 152, _ => rfl
  | 153, _ => rfl
  | 154, _ => rfl
  | 155, _ => rfl
  | 156, _ => rfl
  | 157, _ => rfl
  | 158, _ => rfl
  | 159, _ => rfl
  | 160, _ => rfl
  | 161, _ => rfl
  | 162, _ => rfl
  | 163, _ => rfl
  | 164, _ => rfl
  | 165, _ => rfl
  | 166, _ => rfl
  | 167, _ => rfl
  | n + 168, h => absurd h (by omega)
theorem zCode_in {j : Nat} (h : j < 168) : Cond.code (zY j) (zB j) (zML j) (zRet j) ∈ zG := List.mem_filter.mpr ⟨List.mem_of_getElem? (zCode_at j h), rfl⟩
end
section
/-! How the abstract machine's cells, values and locals lie in the real one. -/
abbrev zCs : Type := ClassId × ClassId × ClassId × ClassId
def zTys (cs : zCs) : List (ClassId × FieldType) := [(cs.1, .int), (cs.2.1, .boolean), (cs.2.2.1, .object "BogTown$House"), (cs.2.2.2, .object "BogTown$Sheet")]
def zv (b : Nat) (ad : Nat → Nat) (v : Value) : Value := match v with
  | .ref k => .ref (ad k)
  | .null => .ref b
  | .int x => .int x
  | .long x => .long x
  | .float x => .float x
  | .double x => .double x
  | .retAddr x => .retAddr x
theorem zv_cat (b : Nat) (ad : Nat → Nat) (v : Value) : (zv b ad v).category = v.category := by cases v <;> rfl
theorem zv_cats (b : Nat) (ad : Nat → Nat) (st : List Value) : ((st.map (zv b ad)).map (fun v : Value => v.category)).sum = (st.map (fun v : Value => v.category)).sum := by
  rw [List.map_map]
  congr 1
  exact List.map_congr_left (fun v _ => zv_cat b ad v)
def zVal (ad : Nat → Nat) (h : zH) (c k f : Nat) : Value := match zFty (zTy c f) with
  | 0 => .int (h.2.2.1 k f)
  | 1 => .int (h.2.2.1 k f)
  | 2 => .long (h.2.2.2 k)
  | _ => va_rf ((zsr h k f).map ad)
def zEnt (cs : zCs) (ad : Nat → Nat) (h : zH) (k : Nat) (q : Nat × Nat) : va_E :=
  bif Nat.blt q.1 10 then .inr (q.1, (List.range q.2).map (fun f => zVal ad h q.1 k f)) else
  bif Nat.beq q.1 10 then .inl (cs.1, q.2, .inl (h.2.2.1 k)) else
  bif Nat.beq q.1 11 then .inl (cs.2.1, q.2, .inl (h.2.2.1 k)) else
  bif Nat.beq q.1 12 then .inl (cs.2.2.1, q.2, .inr (.inr (.inr (.inr (fun j => (zsr h k j).map ad))))) else
  .inl (cs.2.2.2, q.2, .inr (.inr (.inr (.inr (fun j => (zsr h k j).map ad)))))
def zWd (cs : zCs) (ad : Nat → Nat) (h : zH) : va_W := h.1.mapIdx (fun k q => (ad k, zEnt cs ad h k q))
theorem zWd_at {cs : zCs} {ad : Nat → Nat} {h : zH} {k : Nat} {q : Nat × Nat} (hk : h.1[k]? = some q) : (zWd cs ad h)[k]? = some (ad k, zEnt cs ad h k q) := by
  simp [zWd, List.getElem?_mapIdx, hk]
theorem zWd_len {cs : zCs} {ad : Nat → Nat} {h : zH} : (zWd cs ad h).length = h.1.length := by simp [zWd]
theorem zWd_set {cs : zCs} {ad : Nat → Nat} {h h' : zH} {k : Nat} {q : Nat × Nat} {E : va_E} (hl : h'.1 = h.1) (hk : h.1[k]? = some q) (he : zEnt cs ad h' k q = E) (ho : ∀ k' q', k' ≠ k → h.1[k']? = some q' → zEnt cs ad h' k' q' = zEnt cs ad h k' q') : (zWd cs ad h).set k (ad k, E) = zWd cs ad h' := by
  apply List.ext_getElem?
  intro j
  rw [List.getElem?_set, zWd_len]
  by_cases hj : k = j
  · subst hj
    have hlt : k < h.1.length := (List.getElem?_eq_some_iff.mp hk).1
    rw [if_pos rfl, if_pos hlt, zWd_at (q := q) (by rw [hl]; exact hk), he]
  · rw [if_neg hj]
    cases hq : h.1[j]? with
    | none =>
      have h1 : h.1.length ≤ j := by simpa using hq
      rw [List.getElem?_eq_none (by rw [zWd_len]; exact h1), List.getElem?_eq_none (by rw [zWd_len, hl]; exact h1)]
    | some q' => rw [zWd_at hq, zWd_at (h := h') (q := q') (by rw [hl]; exact hq), ho j q' (fun e => hj e.symm) hq]
theorem zVal_of {ad : Nat → Nat} {h h' : zH} {c k f : Nat} (h1 : h'.2.2.1 k f = h.2.2.1 k f) (h2 : h'.2.2.2 k = h.2.2.2 k) (h3 : zsr h' k f = zsr h k f) : zVal ad h' c k f = zVal ad h c k f := by
  unfold zVal
  rw [h1, h2, h3]
theorem zEnt_of {cs : zCs} {ad : Nat → Nat} {h h' : zH} {k : Nat} {q : Nat × Nat} (h1 : h'.2.2.1 k = h.2.2.1 k) (h2 : h'.2.2.2 k = h.2.2.2 k) (h3 : ∀ f, zsr h' k f = zsr h k f) : zEnt cs ad h' k q = zEnt cs ad h k q := by
  unfold zEnt
  rw [h1, (funext h3 : zsr h' k = zsr h k), (funext (fun f => zVal_of (by rw [h1]) h2 (h3 f)) : zVal ad h' q.1 k = zVal ad h q.1 k)]
theorem zsr_set {r : List (List (Option Nat))} {l : List (Nat × Nat)} {g : Nat → Nat → Int32} {t : Nat → Int64} {k f v : Nat} (hf : f < ((r[k]?).getD []).length) (k' f' : Nat) : zsr (l, zusr r k f v, g, t) k' f' = if k' = k ∧ f' = f then some v else zsr (l, r, g, t) k' f' := by
  unfold zsr zusr
  simp only [List.getElem?_modify]
  by_cases hk : k' = k
  · subst hk
    cases hr : r[k']? with
    | none => rw [hr] at hf; simp at hf
    | some row =>
      rw [hr] at hf
      simp only [Option.getD_some] at hf
      by_cases hj : f' = f
      · subst hj
        simp [hf]
      · have : f ≠ f' := fun e => hj e.symm
        simp [hj, List.getElem?_set, this]
  · have : k ≠ k' := fun e => hk e.symm
    simp [hk, this]
/-- the locals -/
def zPl (b : Nat) (ad : Nat → Nat) (zl : zLs) : List (Nat × Value) := (List.range zl.length).filterMap (fun k => match zl[k]? with
  | some (some v) => if v.category = 2 ∧ zl[k + 1]? ≠ some none then none else some (k, zv b ad v)
  | _ => none)
theorem zPl_in {b : Nat} {ad : Nat → Nat} {zl : zLs} {k : Nat} {w : Value} : (k, w) ∈ zPl b ad zl ↔ ∃ v, zl[k]? = some (some v) ∧ w = zv b ad v ∧ (v.category = 2 → zl[k + 1]? = some none) := by
  unfold zPl
  rw [List.mem_filterMap]
  constructor
  · rintro ⟨j, hj, h⟩
    split at h
    · rename_i v hv
      by_cases q : v.category = 2 ∧ zl[j + 1]? ≠ some none
      · rw [if_pos q] at h
        cases h
      · rw [if_neg q] at h
        cases h
        refine ⟨v, hv, rfl, fun h2 => ?_⟩
        exact Classical.byContradiction fun n => q ⟨h2, n⟩
    · cases h
  · rintro ⟨v, hv, rfl, hc⟩
    refine ⟨k, List.mem_range.mpr (List.getElem?_eq_some_iff.mp hv).1, ?_⟩
    rw [hv]
    show (if _ then none else _) = _
    rw [if_neg (fun q => q.2 (hc q.1))]
def zLV (b : Nat) (ad : Nat → Nat) (nL : Nat) (zl : zLs) (ls : Array Slot) : Prop := zl.length = nL ∧ lv_has ls nL (zPl b ad zl)
theorem zLV.at {b : Nat} {ad : Nat → Nat} {nL : Nat} {zl : zLs} {ls : Array Slot} (h : zLV b ad nL zl ls) {k : Nat} {v : Value} (hk : zl[k]? = some (some v)) (hc : v.category = 2 → zl[k + 1]? = some none) : ls[k]? = some (.val (zv b ad v)) := h.2.2.2 (k, zv b ad v) (zPl_in.mpr ⟨v, hk, rfl, hc⟩)
theorem zLV.mono {b : Nat} {ad : Nat → Nat} {nL : Nat} {zl : zLs} {ls : Array Slot} {l : List (Nat × Value)} (hl : zl.length = nL) (h : lv_has ls nL l) (hs : ∀ q ∈ zPl b ad zl, q ∈ l) : zLV b ad nL zl ls := ⟨hl, h.1, h.2.1, fun q hq => h.2.2 q (hs q hq)⟩
theorem zLV.put1 {b : Nat} {ad : Nat → Nat} {nL : Nat} {zl : zLs} {ls' : Array Slot} {k : Nat} {v : Value} (hl : zl.length = nL) (hc : v.category = 1) (h : lv_has ls' nL ((k, zv b ad v) :: (zPl b ad zl).filter (fun q => !(q.1 == k) && !(q.1 + 1 == k && q.2.category == 2)))) : zLV b ad nL (zl.set k (some v)) ls' := by
  refine zLV.mono (by rw [List.length_set]; exact hl) h ?_
  rintro ⟨j, w⟩ hq
  obtain ⟨x, h1, rfl, h3⟩ := zPl_in.mp hq
  rw [List.getElem?_set] at h1 h3
  by_cases hj : k = j
  · subst hj
    rw [if_pos rfl] at h1
    split at h1
    · cases h1
      exact List.mem_cons_self
    · cases h1
  · rw [if_neg hj] at h1
    have hn : x.category = 2 → ¬ j + 1 = k := fun h2 e => by
      have h4 := h3 h2
      rw [if_pos e.symm] at h4
      split at h4 <;> cases h4
    refine List.mem_cons_of_mem _ (List.mem_filter.mpr ⟨zPl_in.mpr ⟨x, h1, rfl, fun h2 => ?_⟩, ?_⟩)
    · have h4 := h3 h2
      rwa [if_neg (fun e => hn h2 e.symm)] at h4
    · simp only [zv_cat]
      by_cases h2 : x.category = 2
      · simp [hn h2, Ne.symm hj]
      · simp [h2, Ne.symm hj]
theorem zLV.put2 {b : Nat} {ad : Nat → Nat} {nL : Nat} {zl : zLs} {ls' : Array Slot} {k : Nat} {v : Value} (hl : zl.length = nL) (h : lv_has ls' nL ((k, zv b ad v) :: (zPl b ad zl).filter (fun q => !(q.1 == k) && (!(q.1 == k + 1) && !(q.1 + 1 == k && q.2.category == 2))))) : zLV b ad nL ((zl.set k (some v)).set (k + 1) none) ls' := by
  refine zLV.mono (by rw [List.length_set, List.length_set]; exact hl) h ?_
  rintro ⟨j, w⟩ hq
  obtain ⟨x, h1, rfl, h3⟩ := zPl_in.mp hq
  rw [List.getElem?_set, List.length_set] at h1 h3
  by_cases hj1 : k + 1 = j
  · rw [if_pos hj1] at h1
    split at h1 <;> cases h1
  · rw [if_neg hj1, List.getElem?_set] at h1
    by_cases hj : k = j
    · subst hj
      rw [if_pos rfl] at h1
      split at h1
      · cases h1
        exact List.mem_cons_self
      · cases h1
    · rw [if_neg hj] at h1
      have hn : x.category = 2 → ¬ j + 1 = k := fun h2 e => by
        have h4 := h3 h2
        rw [if_neg (by omega), List.getElem?_set, if_pos e.symm] at h4
        split at h4 <;> cases h4
      refine List.mem_cons_of_mem _ (List.mem_filter.mpr ⟨zPl_in.mpr ⟨x, h1, rfl, fun h2 => ?_⟩, ?_⟩)
      · have h4 := h3 h2
        rwa [if_neg (by omega), List.getElem?_set, if_neg (fun e => hn h2 e.symm)] at h4
      · simp only [zv_cat]
        by_cases h2 : x.category = 2
        · simp [hn h2, Ne.symm hj, Ne.symm hj1]
        · simp [h2, Ne.symm hj, Ne.symm hj1]
theorem zArgs_flat (b : Nat) (ad : Nat → Nat) : ∀ (vs : List Value) (k : Nat) (v : Value), (vs.flatMap (fun v => if v.category = 2 then [some v, none] else [some v]))[k]? = some (some v) → (lg_sl (vs.map (zv b ad)))[k]? = some (.val (zv b ad v))
  | [], k, v, h => by simp at h
  | x :: vs, k, v, h => by
    rw [List.flatMap_cons] at h
    show (List.flatMap _ (zv b ad x :: vs.map (zv b ad)))[k]? = _
    rw [List.flatMap_cons, zv_cat]
    by_cases hc : x.category = 2
    · rw [if_pos hc] at h ⊢
      match k, h with
      | 0, h => cases h; rfl
      | 1, h => cases h
      | k + 2, h => exact zArgs_flat b ad vs k v h
    · rw [if_neg hc] at h ⊢
      match k, h with
      | 0, h => cases h; rfl
      | k + 1, h => exact zArgs_flat b ad vs k v h
theorem zArgs_flen (b : Nat) (ad : Nat → Nat) : ∀ (vs : List Value), (lg_sl (vs.map (zv b ad))).length = (vs.flatMap (fun v => if v.category = 2 then [some v, none] else [some v])).length
  | [] => rfl
  | x :: vs => by
    show (List.flatMap _ (zv b ad x :: vs.map (zv b ad))).length = _
    rw [List.flatMap_cons, List.flatMap_cons, List.length_append, List.length_append, zv_cat]
    have ih := zArgs_flen b ad vs
    unfold lg_sl at ih
    rw [ih]
    by_cases hc : x.category = 2
    · rw [if_pos hc, if_pos hc]; rfl
    · rw [if_neg hc, if_neg hc]; rfl
theorem zArgs_LV (b : Nat) (ad : Nat → Nat) (vs : List Value) (n : Nat) (hn : (zArgs vs 0).length ≤ n) : zLV b ad n (zArgs vs n) ((lg_sl (vs.map (zv b ad)) ++ List.replicate (n - (lg_sl (vs.map (zv b ad))).length) Slot.unset).toArray) := by
  have h0 : (zArgs vs 0).length = (vs.flatMap (fun v => if v.category = 2 then [some v, none] else [some v])).length := by simp [zArgs]
  rw [h0] at hn
  have hE := lv_entry (vs.map (zv b ad)) (n := n) (by rw [zArgs_flen]; exact hn)
  refine ⟨(show ((vs.flatMap (fun v : Value => if v.category = 2 then [some v, none] else [some v])) ++ List.replicate (n - (vs.flatMap (fun v : Value => if v.category = 2 then [some v, none] else [some v])).length) none).length = n by rw [List.length_append, List.length_replicate]; omega), hE.1, hE.2.1, ?_⟩
  rintro ⟨k, w⟩ hq
  obtain ⟨v, h1, rfl, -⟩ := zPl_in.mp hq
  unfold zArgs at h1
  by_cases hk : k < (vs.flatMap (fun v => if v.category = 2 then [some v, none] else [some v])).length
  · rw [List.getElem?_append_left hk] at h1
    have h2 := zArgs_flat b ad vs k v h1
    rw [List.getElem?_toArray, List.getElem?_append_left (by rw [zArgs_flen]; exact hk)]
    exact h2
  · rw [List.getElem?_append_right (by omega)] at h1
    have := List.eq_of_mem_replicate (List.mem_of_getElem? h1)
    cases this
/-- other addresses that agree where a reference can point -/
theorem zv_agree {b : Nat} {ad ad' : Nat → Nat} {n : Nat} (ha : ∀ k, k < n → ad' k = ad k) {v : Value} (h : zWv n v = true) : zv b ad' v = zv b ad v := by
  cases v <;> try rfl
  rename_i a
  show Value.ref (ad' a) = Value.ref (ad a)
  rw [ha a (by simpa [zWv, Nat.blt_eq] using h)]
theorem zvs_agree {b : Nat} {ad ad' : Nat → Nat} {n : Nat} (ha : ∀ k, k < n → ad' k = ad k) {st : List Value} (h : st.all (zWv n) = true) : st.map (zv b ad') = st.map (zv b ad) := List.map_congr_left (fun v hv => zv_agree ha (List.all_eq_true.mp h v hv))
theorem zLV.agree {b : Nat} {ad ad' : Nat → Nat} {n nL : Nat} {zl : zLs} {ls : Array Slot} (ha : ∀ k, k < n → ad' k = ad k) (hw : zl.all (zWo n) = true) (h : zLV b ad nL zl ls) : zLV b ad' nL zl ls := by
  refine ⟨h.1, h.2.1, h.2.2.1, ?_⟩
  rintro ⟨k, w⟩ hq
  obtain ⟨v, h1, rfl, h3⟩ := zPl_in.mp hq
  rw [zv_agree ha (show zWv n v = true from List.all_eq_true.mp hw (some v) (List.mem_of_getElem? h1))]
  exact h.at h1 h3
theorem zsr_wf {n : Nat} {h : zH} (hw : zWr n h.2.1 = true) {k f a : Nat} (hs : zsr h k f = some a) : a < n := by
  unfold zsr at hs
  cases hr : h.2.1[k]? with
  | none => rw [hr] at hs; cases hs
  | some row =>
    rw [hr] at hs
    have h1 : row[f]? = some (some a) := by
      cases hf : row[f]? with
      | none => simp [hf] at hs
      | some o => simp [hf] at hs; rw [hs]
    have h2 := List.all_eq_true.mp hw row (List.mem_of_getElem? hr)
    have h3 := List.all_eq_true.mp h2 (some a) (List.mem_of_getElem? h1)
    simpa [Nat.blt_eq] using h3
theorem zsr_agree {n : Nat} {h : zH} {ad ad' : Nat → Nat} (ha : ∀ k, k < n → ad' k = ad k) (hw : zWr n h.2.1 = true) (k f : Nat) : (zsr h k f).map ad' = (zsr h k f).map ad := by
  cases hs : zsr h k f with
  | none => rfl
  | some a => show some _ = some _; rw [ha a (zsr_wf hw hs)]
theorem zEnt_agree {cs : zCs} {n : Nat} {h : zH} {ad ad' : Nat → Nat} (ha : ∀ k, k < n → ad' k = ad k) (hw : zWr n h.2.1 = true) (k : Nat) (q : Nat × Nat) : zEnt cs ad' h k q = zEnt cs ad h k q := by
  have e1 : (fun j => (zsr h k j).map ad') = (fun j => (zsr h k j).map ad) := funext (fun j => zsr_agree ha hw k j)
  have e2 : (fun f => zVal ad' h q.1 k f) = (fun f => zVal ad h q.1 k f) := funext (fun f => by unfold zVal; rw [zsr_agree ha hw k f])
  unfold zEnt
  rw [e1, e2]
/-- a new cell -/
theorem zWd_new {cs : zCs} {h : zH} {ad : Nat → Nat} {t n q : Nat} (hw : zWr h.1.length h.2.1 = true) (hl : h.2.1.length = h.1.length) : zWd cs (va_up ad h.1.length q) (zNew h t n) = zWd cs ad h ++ [(q, zEnt cs (va_up ad h.1.length q) (zNew h t n) h.1.length (t, n))] := by
  have hup : ∀ k, k < h.1.length → va_up ad h.1.length q k = ad k := fun k hk => by unfold va_up; rw [if_neg (Nat.ne_of_lt hk)]
  have hold : ∀ k, k < h.1.length → ∀ q', zEnt cs (va_up ad h.1.length q) (zNew h t n) k q' = zEnt cs ad h k q' := by
    intro k hk q'
    rw [← zEnt_agree (cs := cs) (h := h) hup hw k q']
    refine zEnt_of ?_ ?_ ?_
    · funext j; show (if k = h.1.length then _ else _) = _; rw [if_neg (Nat.ne_of_lt hk)]
    · show (if k = h.1.length then _ else _) = _; rw [if_neg (Nat.ne_of_lt hk)]
    · intro f
      unfold zsr zNew
      dsimp only
      rw [List.getElem?_append_left (by rw [hl]; exact hk)]
  apply List.ext_getElem?
  intro j
  by_cases hj : j < h.1.length
  · rw [List.getElem?_append_left (by rw [zWd_len]; exact hj)]
    have hq : h.1[j]? = some h.1[j] := List.getElem?_eq_getElem hj
    rw [zWd_at (h := h) hq, zWd_at (h := zNew h t n) (q := h.1[j]) (by show (h.1 ++ [(t, n)])[j]? = _; rw [List.getElem?_append_left hj]; exact hq), hup j hj, hold j hj]
  · rw [List.getElem?_append_right (by rw [zWd_len]; omega), zWd_len]
    by_cases hj2 : j = h.1.length
    · subst hj2
      rw [zWd_at (h := zNew h t n) (q := (t, n)) (by show (h.1 ++ [(t, n)])[h.1.length]? = _; simp)]
      simp [va_up]
    · rw [List.getElem?_eq_none (by rw [zWd_len]; show (h.1 ++ [(t, n)]).length ≤ j; simp; omega), List.getElem?_eq_none (by simp; omega)]
end
section
/-! Soundness, a group of instructions at a time. -/
section ZS
variable {p : Program} {l : Launch} {e : Env} {R : Room} {s : State} {m : MethodId} {args : Array Value} {below : List Frame} {meth : Method} {c : Code} {H : Heap} {locs : List Loc} {cells slots : Nat} {Q : State → Prop}
variable {i pc len b nL : Nat} {ad : Nat → Nat} {ls : Array Slot} {rest : List Value} {ins : Instr}
theorem zs_con (hx : p.tables.exec = Jvm.exec) (hb : c.code = zB i) (hown : s.vm.findClass (zCn (zC i)) = some m.cls) (hts : ∀ w ∈ zG, w.before args s = true) (hd : decode (zB i) pc = .ok (ins, len)) {v : Value} (h : zCon (zC i) ins len = some v)
    (k : W p l e R s m args below meth c H locs cells slots Q (F0 m (pc + len) ls (zv b ad v :: rest))) : W p l e R s m args below meth c H locs cells slots Q (F0 m pc ls rest) := by
  unfold zCon at h
  split at h
  · cases h; exact lv_iconst hx hb hd rfl k
  · cases h; exact lv_bipush hx hb hd rfl k
  · cases h; exact lv_sipush hx hb hd rfl k
  · cases h; exact lv_lconst hx hb hd rfl k
  · obtain ⟨q, hq, rfl⟩ := Option.map_eq_some_iff.mp h
    exact lv_ldc hx hb hown (hts _ (zw_in (zK3_ok _ (zlook hq)))) hd k
  · obtain ⟨q, hq, rfl⟩ := Option.map_eq_some_iff.mp h
    exact lv_ldcw hx hb hown (hts _ (zw_in (zK3_ok _ (zlook hq)))) hd k
  · obtain ⟨q, hq, rfl⟩ := Option.map_eq_some_iff.mp h
    exact lv_ldc2 hx hb hown (hts _ (zw_in (zK6_ok _ (zlook hq)))) hd k
  · cases h
theorem zs_get {zl : zLs} {k kd : Nat} {v : Value} (hg : zGet zl k kd = some v) (hL : zLV b ad nL zl ls) : ls[k]? = some (.val (zv b ad v)) ∧ ((kd = 0 ∧ ∃ x, v = .int x) ∨ (kd = 1 ∧ ∃ a, zv b ad v = .ref a) ∨ (kd = 2 ∧ ∃ x, v = .long x)) := by
  unfold zGet at hg
  split at hg
  · rename_i x hx
    cases hg
    exact ⟨hL.at hx (fun h => by cases h), Or.inl ⟨rfl, _, rfl⟩⟩
  · rename_i x hx
    cases hg
    exact ⟨hL.at hx (fun h => by cases h), Or.inr (Or.inl ⟨rfl, _, rfl⟩)⟩
  · rename_i hx
    cases hg
    exact ⟨hL.at hx (fun h => by cases h), Or.inr (Or.inl ⟨rfl, _, rfl⟩)⟩
  · rename_i x hx
    split at hg
    · rename_i hy
      cases hg
      exact ⟨hL.at hx (fun _ => hy), Or.inr (Or.inr ⟨rfl, _, rfl⟩)⟩
    · cases hg
  · cases hg
theorem zs_ld (hx : p.tables.exec = Jvm.exec) (hb : c.code = zB i) (hd : decode (zB i) pc = .ok (ins, len)) {k kd : Nat} (h : zLd ins len = some (k, kd)) {zl : zLs} {v : Value} (hg : zGet zl k kd = some v) (hL : zLV b ad nL zl ls)
    (kk : W p l e R s m args below meth c H locs cells slots Q (F0 m (pc + len) ls (zv b ad v :: rest))) : W p l e R s m args below meth c H locs cells slots Q (F0 m pc ls rest) := by
  obtain ⟨h1, h2⟩ := zs_get hg hL
  unfold zLd at h
  split at h
  · cases h
    rcases h2 with ⟨-, x, rfl⟩ | ⟨h3, -⟩ | ⟨h3, -⟩
    · exact lv_iload hx hb hd h1 kk
    · cases h3
    · cases h3
  · cases h
    rcases h2 with ⟨-, x, rfl⟩ | ⟨h3, -⟩ | ⟨h3, -⟩
    · exact lv_iload_n hx hb hd rfl h1 kk
    · cases h3
    · cases h3
  · cases h
    rcases h2 with ⟨h3, -⟩ | ⟨-, a, h3⟩ | ⟨h3, -⟩
    · cases h3
    · rw [h3] at h1 kk
      exact lv_aload hx hb hd h1 kk
    · cases h3
  · cases h
    rcases h2 with ⟨h3, -⟩ | ⟨-, a, h3⟩ | ⟨h3, -⟩
    · cases h3
    · rw [h3] at h1 kk
      exact lv_aload_n hx hb hd rfl h1 kk
    · cases h3
  · cases h
    rcases h2 with ⟨h3, -⟩ | ⟨h3, -⟩ | ⟨-, x, rfl⟩
    · cases h3
    · cases h3
    · exact lv_lload hx hb hd h1 kk
  · cases h
    rcases h2 with ⟨h3, -⟩ | ⟨h3, -⟩ | ⟨-, x, rfl⟩
    · cases h3
    · cases h3
    · exact lv_lload_n hx hb hd rfl h1 kk
  · cases h
theorem zs_put {zl zl' : zLs} {k kd : Nat} {v : Value} (hg : zPut zl k kd v = some zl') : (kd = 0 ∧ (∃ x, v = .int x) ∧ k < zl.length ∧ zl' = zl.set k (some v)) ∨ (kd = 1 ∧ (∃ a, zv b ad v = .ref a) ∧ k < zl.length ∧ v.category = 1 ∧ zl' = zl.set k (some v)) ∨ (kd = 2 ∧ (∃ x, v = .long x) ∧ k + 1 < zl.length ∧ zl' = (zl.set k (some v)).set (k + 1) none) := by
  have ifb : ∀ {α : Type} {q : Bool} {x y : α}, (bif q then some x else none) = some y → q = true ∧ x = y := by
    intro α q x y h
    cases q
    · cases h
    · exact ⟨rfl, Option.some.inj h⟩
  unfold zPut at hg
  split at hg
  · obtain ⟨h1, h2⟩ := ifb hg
    exact Or.inl ⟨rfl, ⟨_, rfl⟩, by simpa [Nat.blt_eq] using h1, h2.symm⟩
  · obtain ⟨h1, h2⟩ := ifb hg
    exact Or.inr (Or.inl ⟨rfl, ⟨_, rfl⟩, by simpa [Nat.blt_eq] using h1, rfl, h2.symm⟩)
  · obtain ⟨h1, h2⟩ := ifb hg
    exact Or.inr (Or.inl ⟨rfl, ⟨_, rfl⟩, by simpa [Nat.blt_eq] using h1, rfl, h2.symm⟩)
  · obtain ⟨h1, h2⟩ := ifb hg
    exact Or.inr (Or.inr ⟨rfl, ⟨_, rfl⟩, by simpa [Nat.blt_eq] using h1, h2.symm⟩)
  · cases hg
theorem zs_st (hx : p.tables.exec = Jvm.exec) (hb : c.code = zB i) (hd : decode (zB i) pc = .ok (ins, len)) {k kd : Nat} (h : zSt ins len = some (k, kd)) {zl zl' : zLs} {v : Value} (hg : zPut zl k kd v = some zl') (hL : zLV b ad nL zl ls)
    (kk : ∀ ls' : Array Slot, zLV b ad nL zl' ls' → W p l e R s m args below meth c H locs cells slots Q (F0 m (pc + len) ls' rest)) : W p l e R s m args below meth c H locs cells slots Q (F0 m pc ls (zv b ad v :: rest)) := by
  have h2 := zs_put (b := b) (ad := ad) hg
  have hl := hL.1
  unfold zSt at h
  split at h
  · cases h
    rcases h2 with ⟨-, ⟨x, rfl⟩, h4, rfl⟩ | ⟨h3, -⟩ | ⟨h3, -⟩
    · exact lv_istore hx hb hd hL.2 (by omega) rfl (fun ls' h => kk ls' (zLV.put1 (v := .int x) hl rfl h))
    · cases h3
    · cases h3
  · cases h
    rcases h2 with ⟨-, ⟨x, rfl⟩, h4, rfl⟩ | ⟨h3, -⟩ | ⟨h3, -⟩
    · exact lv_istore_n hx hb hd rfl hL.2 (by omega) rfl (fun ls' h => kk ls' (zLV.put1 (v := .int x) hl rfl h))
    · cases h3
    · cases h3
  · cases h
    rcases h2 with ⟨h3, -⟩ | ⟨-, ⟨a, h3⟩, h4, h5, rfl⟩ | ⟨h3, -⟩
    · cases h3
    · rw [h3]
      exact lv_astore hx hb hd hL.2 (by omega) rfl (fun ls' h => kk ls' (zLV.put1 (v := v) hl h5 (by rw [h3]; exact h)))
    · cases h3
  · cases h
    rcases h2 with ⟨h3, -⟩ | ⟨-, ⟨a, h3⟩, h4, h5, rfl⟩ | ⟨h3, -⟩
    · cases h3
    · rw [h3]
      exact lv_astore_n hx hb hd rfl hL.2 (by omega) rfl (fun ls' h => kk ls' (zLV.put1 (v := v) hl h5 (by rw [h3]; exact h)))
    · cases h3
  · cases h
    rcases h2 with ⟨h3, -⟩ | ⟨h3, -⟩ | ⟨-, ⟨x, rfl⟩, h4, rfl⟩
    · cases h3
    · cases h3
    · exact lv_lstore hx hb hd hL.2 (by omega) rfl (fun ls' h => kk ls' (zLV.put2 (v := .long x) hl h))
  · cases h
    rcases h2 with ⟨h3, -⟩ | ⟨h3, -⟩ | ⟨-, ⟨x, rfl⟩, h4, rfl⟩
    · cases h3
    · cases h3
    · exact lv_lstore_n hx hb hd rfl hL.2 (by omega) rfl (fun ls' h => kk ls' (zLV.put2 (v := .long x) hl h))
  · cases h
theorem zs_iinc (hx : p.tables.exec = Jvm.exec) (hb : c.code = zB i) {k : Nat} {n : Int} (hd : decode (zB i) pc = .ok (.iinc k n, 3)) {zl : zLs} {x : Int32} (hk : zl[k]? = some (some (.int x))) (hL : zLV b ad nL zl ls)
    (kk : ∀ ls' : Array Slot, zLV b ad nL (zl.set k (some (.int (x + Int32.ofInt n)))) ls' → W p l e R s m args below meth c H locs cells slots Q (F0 m (pc + 3) ls' rest)) : W p l e R s m args below meth c H locs cells slots Q (F0 m pc ls rest) := by
  obtain ⟨j, hj⟩ := List.getElem?_of_mem (zPl_in.mpr ⟨_, hk, rfl, fun h => by cases h⟩ : (k, zv b ad (.int x)) ∈ zPl b ad zl)
  exact lv_iinc hx hb hd hL.2 hj rfl (by rw [← hL.1]; exact (List.getElem?_eq_some_iff.mp hk).1) rfl (fun ls' h => kk ls' (zLV.put1 (v := .int _) hL.1 rfl h))
theorem zs_o1 (hx : p.tables.exec = Jvm.exec) (hb : c.code = zB i) (hd : decode (zB i) pc = .ok (ins, 1)) {v w : Value} (h : zO1 ins v = some w)
    (k : W p l e R s m args below meth c H locs cells slots Q (F0 m (pc + 1) ls (zv b ad w :: rest))) : W p l e R s m args below meth c H locs cells slots Q (F0 m pc ls (zv b ad v :: rest)) := by
  unfold zO1 at h
  split at h
  · cases h; exact lv_ineg hx hb hd k
  · cases h; exact lv_i2l hx hb hd rfl k
  · cases h; exact lv_i2b hx hb hd rfl k
  · cases h; exact lv_i2s hx hb hd rfl k
  · cases h
theorem zs_o2 (hx : p.tables.exec = Jvm.exec) (hb : c.code = zB i) (hd : decode (zB i) pc = .ok (ins, 1)) {v v2 w : Value} (h : zO2 ins v v2 = some w)
    (k : W p l e R s m args below meth c H locs cells slots Q (F0 m (pc + 1) ls (zv b ad w :: rest))) : W p l e R s m args below meth c H locs cells slots Q (F0 m pc ls (zv b ad v :: zv b ad v2 :: rest)) := by
  have ifb : ∀ {q : Prop} {inst : Decidable q} {x y : Value}, (bif decide q then none else some x) = some y → ¬ q ∧ x = y := by
    intro q inst x y h
    by_cases hq : q
    · rw [decide_eq_true hq] at h; cases h
    · rw [decide_eq_false hq] at h; exact ⟨hq, Option.some.inj h⟩
  unfold zO2 at h
  split at h
  · cases h; exact lv_iadd hx hb hd k
  · cases h; exact lv_isub hx hb hd k
  · cases h; exact lv_imul hx hb hd k
  · obtain ⟨h1, rfl⟩ := ifb h; exact lv_idiv hx hb hd h1 k
  · obtain ⟨h1, rfl⟩ := ifb h; exact lv_irem hx hb hd h1 k
  · cases h; exact lv_iand hx hb hd k
  · cases h; exact lv_ior hx hb hd k
  · cases h; exact lv_ishl hx hb hd k
  · cases h; exact lv_ishr hx hb hd k
  · cases h; exact lv_iushr hx hb hd rfl k
  · cases h; exact lv_ladd hx hb hd k
  · cases h; exact lv_lsub hx hb hd k
  · obtain ⟨h1, rfl⟩ := ifb h; exact lv_ldiv hx hb hd h1 k
  · obtain ⟨h1, rfl⟩ := ifb h; exact lv_lrem hx hb hd h1 k
  · cases h; exact lv_land hx hb hd k
  · cases h; exact lv_lor hx hb hd k
  · cases h; exact lv_lshl hx hb hd rfl k
  · cases h; exact lv_lshr hx hb hd rfl k
  · cases h; exact W.lcmp hx hb hd k
  · cases h
theorem zs_op (hx : p.tables.exec = Jvm.exec) (hb : c.code = zB i) (hd : decode (zB i) pc = .ok (ins, len)) {st st' : List Value} (h : zOp ins len st = some st')
    (k : W p l e R s m args below meth c H locs cells slots Q (F0 m (pc + 1) ls (st'.map (zv b ad)))) : W p l e R s m args below meth c H locs cells slots Q (F0 m pc ls (st.map (zv b ad))) := by
  unfold zOp at h
  split at h
  · obtain ⟨v, hg, rfl⟩ := Option.map_eq_some_iff.mp h
    exact zs_o1 hx hb hd hg k
  · obtain ⟨v, hg, rfl⟩ := Option.map_eq_some_iff.mp h
    exact zs_o1 hx hb hd hg k
  · obtain ⟨v, hg, rfl⟩ := Option.map_eq_some_iff.mp h
    exact zs_o1 hx hb hd hg k
  · obtain ⟨v, hg, rfl⟩ := Option.map_eq_some_iff.mp h
    exact zs_o1 hx hb hd hg k
  · obtain ⟨v, hg, rfl⟩ := Option.map_eq_some_iff.mp h
    exact zs_o2 hx hb hd hg k
  · cases h
theorem zTgt_eq {off : Int} {t : Nat} (h : zTgt pc off = some t) : (pc : Int) + off = (t : Int) := by
  unfold zTgt at h
  split at h
  · rename_i t' ht
    cases h
    exact ht
  · cases h
theorem zs_br (hx : p.tables.exec = Jvm.exec) (hb : c.code = zB i) (hd : decode (zB i) pc = .ok (ins, len)) {st st' : List Value} {t : Nat} (h : zBr pc ins len st = some (t, st'))
    (k : W p l e R s m args below meth c H locs cells slots Q (F0 m t ls (st'.map (zv b ad)))) : W p l e R s m args below meth c H locs cells slots Q (F0 m pc ls (st.map (zv b ad))) := by
  unfold zBr at h
  split at h
  · obtain ⟨t', h1, h2⟩ := Option.map_eq_some_iff.mp h
    cases h2
    exact lv_goto hx hb hd (zTgt_eq h1) k
  · rename_i q off y x st
    obtain ⟨t', h1, h2⟩ := Option.map_eq_some_iff.mp h
    cases h2
    have ht := zTgt_eq h1
    cases q
    · exact lv_icmp_eq hx hb hd ht (fun q => by rw [show zCmp .eq x y = true from decide_eq_true q] at k; exact k) (fun q => by rw [show zCmp .eq x y = false from decide_eq_false q] at k; exact k)
    · exact lv_icmp_ne hx hb hd ht (fun q => by rw [show zCmp .ne x y = true by simp [zCmp, q]] at k; exact k) (fun q => by rw [show zCmp .ne x y = false by simp [zCmp, q]] at k; exact k)
    · exact lv_icmp_lt hx hb hd ht (fun q => by rw [show zCmp .lt x y = true from decide_eq_true q] at k; exact k) (fun q => by rw [show zCmp .lt x y = false from decide_eq_false q] at k; exact k)
    · exact lv_icmp_ge hx hb hd ht (fun q => by rw [show zCmp .ge x y = true from decide_eq_true q] at k; exact k) (fun q => by rw [show zCmp .ge x y = false from decide_eq_false q] at k; exact k)
    · exact lv_icmp_gt hx hb hd ht (fun q => by rw [show zCmp .gt x y = true from decide_eq_true q] at k; exact k) (fun q => by rw [show zCmp .gt x y = false from decide_eq_false q] at k; exact k)
    · exact lv_icmp_le hx hb hd ht (fun q => by rw [show zCmp .le x y = true from decide_eq_true q] at k; exact k) (fun q => by rw [show zCmp .le x y = false from decide_eq_false q] at k; exact k)
  · rename_i q off x st
    obtain ⟨t', h1, h2⟩ := Option.map_eq_some_iff.mp h
    cases h2
    have ht := zTgt_eq h1
    cases q
    · exact lv_if_eq hx hb hd ht (fun q => by rw [show zCmp .eq x 0 = true from decide_eq_true q] at k; exact k) (fun q => by rw [show zCmp .eq x 0 = false from decide_eq_false q] at k; exact k)
    · exact lv_if_ne hx hb hd ht (fun q => by rw [show zCmp .ne x 0 = true by simp [zCmp, q]] at k; exact k) (fun q => by rw [show zCmp .ne x 0 = false by simp [zCmp, q]] at k; exact k)
    · exact lv_if_lt hx hb hd ht (fun q => by rw [show zCmp .lt x 0 = true from decide_eq_true q] at k; exact k) (fun q => by rw [show zCmp .lt x 0 = false from decide_eq_false q] at k; exact k)
    · exact lv_if_ge hx hb hd ht (fun q => by rw [show zCmp .ge x 0 = true from decide_eq_true q] at k; exact k) (fun q => by rw [show zCmp .ge x 0 = false from decide_eq_false q] at k; exact k)
    · exact lv_if_gt hx hb hd ht (fun q => by rw [show zCmp .gt x 0 = true from decide_eq_true q] at k; exact k) (fun q => by rw [show zCmp .gt x 0 = false from decide_eq_false q] at k; exact k)
    · exact lv_if_le hx hb hd ht (fun q => by rw [show zCmp .le x 0 = true from decide_eq_true q] at k; exact k) (fun q => by rw [show zCmp .le x 0 = false from decide_eq_false q] at k; exact k)
  · rename_i d lo hi offs x st
    obtain ⟨o, h1, h2⟩ := Option.bind_eq_some_iff.mp h
    obtain ⟨t', h3, h4⟩ := Option.map_eq_some_iff.mp h2
    cases h4
    dsimp only [zSw] at h1
    by_cases q : x.toInt < lo ∨ hi < x.toInt
    · rw [show (decide (x.toInt < lo) || decide (hi < x.toInt)) = true by simpa using q] at h1
      cases h1
      exact lv_tableOut hx hb hd q (zTgt_eq h3) k
    · rw [show (decide (x.toInt < lo) || decide (hi < x.toInt)) = false by simpa using q] at h1
      exact lv_tableIn hx hb hd (fun z => q (Or.inl z)) (fun z => q (Or.inr z)) h1 (zTgt_eq h3) k
  · rename_i d ps x st
    obtain ⟨o, h1, h2⟩ := Option.bind_eq_some_iff.mp h
    obtain ⟨t', h3, h4⟩ := Option.map_eq_some_iff.mp h2
    cases h4
    dsimp only [zSw] at h1
    cases q : (ps.toList.zip (ps.toList.drop 1)).all (fun (a, next) => a.1 < next.1)
    · rw [q] at h1; cases h1
    · rw [q] at h1
      exact lv_lookup hx hb hd q (Option.some.inj h1) (zTgt_eq h3) k
  · cases h
end ZS
end
section
/-! Soundness of what reads and writes cells. -/
theorem zVw : ∀ c : Nat, c < 10 → vwCl[c]? = some (zCn c, zTT c, zNF c)
  | 0, _ => rfl
  | 1, _ => rfl
  | 2, _ => rfl
  | 3, _ => rfl
  | 4, _ => rfl
  | 5, _ => rfl
  | 6, _ => rfl
  | 7, _ => rfl
  | 8, _ => rfl
  | 9, _ => rfl
  | n + 10, h => absurd h (by omega)
theorem zTyOk : ∀ c : Nat, c < 10 → ∀ f, f < zNF c → parseFieldDescriptor (zTT c f).2.2.1 = some (zTy c f)
  | 0, _ => tyX0_ok
  | 1, _ => tyX1_ok
  | 2, _ => tyX2_ok
  | 3, _ => tyX3_ok
  | 4, _ => tyX4_ok
  | 5, _ => tyX5_ok
  | 6, _ => tyX6_ok
  | 7, _ => tyX7_ok
  | 8, _ => tyX8_ok
  | 9, _ => tyX9_ok
  | n + 10, h => absurd h (by omega)
theorem zNmOk : ∀ c : Nat, c < 10 → ∀ a, a < zNF c → ∀ b, b < zNF c → a ≠ b → (zTT c a).2.1 ≠ (zTT c b).2.1
  | 0, _ => nmX0
  | 1, _ => nmX1
  | 2, _ => nmX2
  | 3, _ => nmX3
  | 4, _ => nmX4
  | 5, _ => nmX5
  | 6, _ => nmX6
  | 7, _ => nmX7
  | 8, _ => nmX8
  | 9, _ => nmX9
  | n + 10, h => absurd h (by omega)
def zIsR (t : FieldType) : Bool := match t with
  | .object _ => true
  | .array _ => true
  | _ => false
theorem zRefOk : ∀ c ∈ List.range 10, ∀ f ∈ List.range (zNF c), zFty (zTy c f) = 3 → zIsR (zTy c f) = true := by decide +kernel
theorem zFty0 {t : FieldType} (h : zFty t = 0) : t = .int := by cases t <;> first | rfl | (exact absurd h (by simp [zFty]))
theorem zFty1 {t : FieldType} (h : zFty t = 1) : t = .boolean := by cases t <;> first | rfl | (exact absurd h (by simp [zFty]))
theorem zFty2 {t : FieldType} (h : zFty t = 2) : t = .long := by cases t <;> first | rfl | (exact absurd h (by simp [zFty]))
/-- the words that go from frame to frame, but not as good words -/
def zNw (s : State) : Prop := (∀ a i b n d h, Cond.fieldLinkNest a i b n d h ∈ lw_tbl → va_Nw (.fieldLinkNest a i b n d h) s) ∧ (∀ a i x h, Cond.methodLinkNest a i x h ∈ lw_tbl → va_Nw (.methodLinkNest a i x h) s) ∧ va_AO "BogTown$House" s ∧ va_AO "BogTown$Sheet" s
theorem zNw.warm {s U : State} (hW : s.WarmedH U.vm) (h : zNw s) : zNw U := ⟨fun a i b n d q hm => va_Nw.warmF hW (h.1 a i b n d q hm), fun a i x q hm => va_Nw.warmM hW (h.2.1 a i x q hm), h.2.2.1.moved hW.alike, h.2.2.2.moved hW.alike⟩
theorem zNw.same {s U : State} (hv : s.vm = U.vm) (h : zNw s) : zNw U := ⟨fun a i b n d q hm => va_Nw.same rfl hv (h.1 a i b n d q hm), fun a i x q hm => va_Nw.same rfl hv (h.2.1 a i x q hm), h.2.2.1.moved (by rw [hv]; exact Vm.Alike.refl _), h.2.2.2.moved (by rw [hv]; exact Vm.Alike.refl _)⟩
/-- what stays through a frame of method i -/
def zCx (D : va_G) (cs : zCs) (b L : Nat) (xs : Nat → Int32) (A : Nat → Prop) (i : Nat) (p : Program) (R : Room) (s : State) (m : MethodId) (args : Array Value) (meth : Method) (c : Code) : Prop :=
  p.tables.exec = Jvm.exec ∧ c.code = zB i ∧ c.maxLocals = zML i ∧ s.vm.findClass (zCn (zC i)) = some m.cls ∧ (∀ w ∈ zG, w.before args s = true) ∧ zNw s ∧ ((zY i).name = "<init>" → meth.name = "<init>") ∧ va_K D vwCl (zTys cs) s ∧ va_X b L xs s s.heap ∧ b < s.heap.size ∧ ¬ A b ∧ (∀ q, s.heap.size ≤ q → A q) ∧ zFr i ≤ R.frames ∧ zLo i ≤ R.locals ∧ zMc i ≤ R.cells ∧ 500 * zMc i ≤ R.slots
theorem zifb {α : Type} {q : Bool} {x y : α} (h : (bif q then some x else none) = some y) : q = true ∧ x = y := by
  cases q
  · cases h
  · exact ⟨rfl, Option.some.inj h⟩
theorem zifc {α : Type} {q : Bool} {x : Option α} {y : α} (h : (bif q then x else none) = some y) : q = true ∧ x = some y := by
  cases q
  · cases h
  · exact ⟨rfl, h⟩
theorem zin_in {j : Int32} {n : Nat} (h : zin j n = true) : vp_in j n := by
  unfold zin at h
  simp only [Bool.and_eq_true, Bool.not_eq_true', decide_eq_false_iff_not, Nat.blt_eq] at h
  rintro (q | q)
  · exact h.1 q
  · omega
theorem zFV_val {b : Nat} {ad : Nat → Nat} {h : zH} {c k f : Nat} {v : Value} (hv : zFV h c k f = some v) : zVal ad h c k f = zv b ad v := by
  unfold zFV at hv
  unfold zVal
  generalize zFty (zTy c f) = ty at hv ⊢
  match ty, hv with
  | 0, hv => cases hv; rfl
  | 1, hv => cases hv; rfl
  | 2, hv => cases hv; rfl
  | n + 3, hv =>
    obtain ⟨a, h1, rfl⟩ := Option.map_eq_some_iff.mp hv
    show va_rf (Option.map ad (zsr h k f)) = _
    rw [h1]
    rfl
theorem zfs_set {ad : Nat → Nat} {h h' : zH} {c k f n : Nat} {v : Value} (hh : ∀ j, j < n → zVal ad h' c k j = if j = f then v else zVal ad h c k j) : (List.range n).map (fun j => zVal ad h' c k j) = ((List.range n).map (fun j => zVal ad h c k j)).set f v := by
  apply List.ext_getElem?
  intro j
  rw [List.getElem?_set, List.getElem?_map, List.getElem?_map, List.length_map, List.length_range]
  by_cases hj : j < n
  · rw [List.getElem?_range hj]
    by_cases hf : f = j
    · subst hf
      rw [if_pos rfl, if_pos hj]
      show some (zVal ad h' c k f) = _
      rw [hh f hj, if_pos rfl]
    · rw [if_neg hf]
      show some (zVal ad h' c k j) = some _
      rw [hh j hj, if_neg (fun e => hf e.symm)]
  · rw [List.getElem?_eq_none (by simp; omega)]
    by_cases hf : f = j
    · rw [if_pos hf, if_neg (by omega)]; rfl
    · rw [if_neg hf]; rfl
theorem zbool_n {x : Int32} (h : x = 0 ∨ x = 1) : narrow .boolean (.int x) = .int x ∧ fits .boolean (.int x) = true := by
  rcases h with rfl | rfl <;> exact ⟨by decide, by decide⟩
theorem zFP_ok {b : Nat} {ad : Nat → Nat} {cs : zCs} {h h' : zH} {c k f : Nat} {v : Value} (hc : c < 10) (hf : f < zNF c) (hk : h.1[k]? = some (c, zNF c)) (hv : zFP h c k f v = some h') :
    h'.1 = h.1 ∧ narrow (zTy c f) (zv b ad v) = zv b ad v ∧ fits (zTy c f) (zv b ad v) = true ∧ (zWd cs ad h).set k (ad k, .inr (c, ((List.range (zNF c)).map (fun j => zVal ad h c k j)).set f (zv b ad v))) = zWd cs ad h' := by
  have hE : ∀ g : zH, zEnt cs ad g k (c, zNF c) = .inr (c, (List.range (zNF c)).map (fun j => zVal ad g c k j)) := fun g => by
    unfold zEnt
    rw [show Nat.blt (c, zNF c).1 10 = true by simpa [Nat.blt_eq] using hc]
    rfl
  unfold zFP at hv
  split at hv
  · rename_i x ht
    cases hv
    refine ⟨rfl, by rw [zFty0 ht]; rfl, by rw [zFty0 ht]; rfl, zWd_set rfl hk ?_ ?_⟩
    · rw [hE, zfs_set (h := h) (f := f) (v := .int x) (fun j hj => ?_)]
      · rfl
      by_cases hjf : j = f
      · subst hjf
        rw [if_pos rfl]
        unfold zVal
        rw [ht]
        simp [zu]
      · rw [if_neg hjf]
        exact zVal_of (by simp [zu, hjf]) rfl rfl
    · intro k' q' hne _
      exact zEnt_of (by funext j; simp [zu, hne]) rfl (fun _ => rfl)
  · rename_i x ht
    obtain ⟨hx, rfl⟩ := zifb hv
    have hx2 : x = 0 ∨ x = 1 := by simpa using hx
    refine ⟨rfl, by rw [zFty1 ht]; exact (zbool_n hx2).1, by rw [zFty1 ht]; exact (zbool_n hx2).2, zWd_set rfl hk ?_ ?_⟩
    · rw [hE, zfs_set (h := h) (f := f) (v := .int x) (fun j hj => ?_)]
      · rfl
      by_cases hjf : j = f
      · subst hjf
        rw [if_pos rfl]
        unfold zVal
        rw [ht]
        simp [zu]
      · rw [if_neg hjf]
        exact zVal_of (by simp [zu, hjf]) rfl rfl
    · intro k' q' hne _
      exact zEnt_of (by funext j; simp [zu, hne]) rfl (fun _ => rfl)
  · rename_i x ht
    cases hv
    refine ⟨rfl, by rw [zFty2 ht]; rfl, by rw [zFty2 ht]; rfl, zWd_set rfl hk ?_ ?_⟩
    · rw [hE, zfs_set (h := h) (f := f) (v := .long x) (fun j hj => ?_)]
      · rfl
      by_cases hjf : j = f
      · subst hjf
        rw [if_pos rfl]
        unfold zVal
        rw [ht]
        simp [zuJ]
      · rw [if_neg hjf]
        unfold zVal
        split
        · rfl
        · rfl
        · rename_i h2
          exact absurd (zOneJ c (List.mem_range.mpr hc) j (List.mem_range.mpr hj) f (List.mem_range.mpr hf) h2 ht) hjf
        · rfl
    · intro k' q' hne _
      exact zEnt_of rfl (by simp [zuJ, hne]) (fun _ => rfl)
  · rename_i a ht
    obtain ⟨hx, rfl⟩ := zifb hv
    have hx2 : f < ((h.2.1[k]?).getD []).length := by simpa [Nat.blt_eq] using hx
    have hr := zRefOk c (List.mem_range.mpr hc) f (List.mem_range.mpr hf) ht
    have hsr : ∀ k' f', zsr (h.1, zusr h.2.1 k f a, h.2.2.1, h.2.2.2) k' f' = if k' = k ∧ f' = f then some a else zsr h k' f' := fun k' f' => zsr_set hx2 k' f'
    refine ⟨rfl, ?_, ?_, zWd_set rfl hk ?_ ?_⟩
    · show narrow (zTy c f) (.ref (ad a)) = .ref (ad a)
      generalize zTy c f = t at hr
      cases t <;> first | rfl | cases hr
    · show fits (zTy c f) (.ref (ad a)) = true
      generalize zTy c f = t at hr
      cases t <;> first | rfl | cases hr
    · rw [hE, zfs_set (h := h) (f := f) (v := .ref (ad a)) (fun j hj => ?_)]
      · rfl
      by_cases hjf : j = f
      · subst hjf
        rw [if_pos rfl]
        unfold zVal
        rw [ht, hsr, if_pos ⟨rfl, rfl⟩]
        rfl
      · rw [if_neg hjf]
        exact zVal_of rfl rfl (by rw [hsr, if_neg (fun e => hjf e.2)])
    · intro k' q' hne _
      exact zEnt_of rfl rfl (fun f' => by rw [hsr, if_neg (fun e => hne e.1)])
  · cases hv
section ZM
variable {p : Program} {l : Launch} {e : Env} {R : Room} {s : State} {m : MethodId} {args : Array Value} {below : List Frame} {meth : Method} {c : Code} {H : Heap} {locs : List Loc} {cells slots : Nat} {Q : State → Prop}
variable {i pc len b L nL : Nat} {xs : Nat → Int32} {ad : Nat → Nat} {D : va_G} {cs : zCs} {A : Nat → Prop} {ls : Array Slot} {rest : List Value} {ins : Instr} {h h' : zH} {st st' : List Value}
theorem zs_getf (Cx : zCx D cs b L xs A i p R s m args meth c) {idx k : Nat} (hd : decode (zB i) pc = .ok (.getfield idx, 3)) (hP : va_P D vwCl (zWd cs ad h) H) {C f nest pp t n : Nat} (h1 : zFS.lookup (zC i, idx) = some (C, f, nest, pp)) (h2 : h.1[k]? = some (t, n)) (h3 : t = C ∧ n = zNF C) {v : Value} (h4 : zFV h C k f = some v)
    (kk : W p l e R s m args below meth c H locs cells slots Q (F0 m (pc + 3) ls (zv b ad v :: rest))) : W p l e R s m args below meth c H locs cells slots Q (F0 m pc ls (.ref (ad k) :: rest)) := by
  obtain ⟨hx, hb, hml, hown, hts, hnw, hini, hK, -⟩ := Cx
  obtain ⟨rfl, rfl⟩ := h3
  have hF := zFS_ok _ (zlook h1)
  unfold zFok at hF
  simp only [Bool.and_eq_true, Nat.blt_eq, decide_eq_true_eq] at hF
  obtain ⟨⟨⟨hc, hf⟩, hdecl⟩, hl⟩ := hF
  have he : (zWd cs ad h)[k]? = some (ad k, .inr (t, (List.range (zNF t)).map (fun j => zVal ad h t k j))) := by
    rw [zWd_at h2]
    unfold zEnt
    rw [show Nat.blt (t, zNF t).1 10 = true by simpa [Nat.blt_eq] using hc]
    rfl
  have hv : ((List.range (zNF t)).map (fun j => zVal ad h t k j))[f]? = some (zv b ad v) := by
    rw [List.getElem?_map, List.getElem?_range hf]
    show some (zVal ad h t k f) = _
    rw [zFV_val h4]
  have hin : ∀ w ∈ u_ws (zCn t) (zTT t) (zNF t), w ∈ zG := zCl_ok t (List.mem_range.mpr hc)
  have hsame : ∀ x, s.fieldFound? (zTT t f).1 (zTT t f).2.1 (zTT t f).2.2.1 = some x → s.fieldFound? (zCn t) (zTT t f).2.1 (zTT t f).2.2.1 = some x := fun x hx => by rw [hdecl] at hx; exact hx
  cases hq : Nat.beq nest 0 with
  | true =>
    rw [hq] at hl
    exact va_get hx hb hts hin hown hK hP k he (zVw t hc) f hf (hts _ (zw_in hl)) hsame hv hd kk
  | false =>
    rw [hq] at hl
    exact va_getN hx hb hts hin hown hK hP k he (zVw t hc) f hf (va_Nw.use rfl (hnw.1 _ _ _ _ _ _ (zwn_in hl))) hsame hv hd kk
theorem zs_putf (Cx : zCx D cs b L xs A i p R s m args meth c) {idx k : Nat} (hd : decode (zB i) pc = .ok (.putfield idx, 3)) (hP : va_P D vwCl (zWd cs ad h) H) (hD : va_D A (zWd cs ad h)) (hS : va_S A s.heap H locs) {C f nest pp t n : Nat} (h1 : zFS.lookup (zC i, idx) = some (C, f, nest, pp)) (h2 : h.1[k]? = some (t, n)) (h3 : t = C ∧ n = zNF C) (hfin : (zTT C f).2.2.2 = false ∨ ((zY i).name = "<init>" ∧ C = zC i ∧ nest = 0)) {v : Value} (h4 : zFP h C k f v = some h')
    (kk : ∀ (H1 : Heap) (locs1 : List Loc), va_P D vwCl (zWd cs ad h') H1 → va_D A (zWd cs ad h') → va_S A s.heap H1 locs1 → W p l e R s m args below meth c H1 locs1 cells slots Q (F0 m (pc + 3) ls rest)) : W p l e R s m args below meth c H locs cells slots Q (F0 m pc ls (zv b ad v :: .ref (ad k) :: rest)) := by
  obtain ⟨hx, hb, hml, hown, hts, hnw, hini, hK, -⟩ := Cx
  obtain ⟨rfl, rfl⟩ := h3
  have hF := zFS_ok _ (zlook h1)
  unfold zFok at hF
  simp only [Bool.and_eq_true, Nat.blt_eq, decide_eq_true_eq] at hF
  obtain ⟨⟨⟨hc, hf⟩, hdecl⟩, hl⟩ := hF
  obtain ⟨-, hn, hft, hset⟩ := zFP_ok (b := b) (ad := ad) (cs := cs) hc hf h2 h4
  have he : (zWd cs ad h)[k]? = some (ad k, .inr (t, (List.range (zNF t)).map (fun j => zVal ad h t k j))) := by
    rw [zWd_at h2]
    unfold zEnt
    rw [show Nat.blt (t, zNF t).1 10 = true by simpa [Nat.blt_eq] using hc]
    rfl
  have hin : ∀ w ∈ u_ws (zCn t) (zTT t) (zNF t), w ∈ zG := zCl_ok t (List.mem_range.mpr hc)
  have hsame : ∀ x, s.fieldFound? (zTT t f).1 (zTT t f).2.1 (zTT t f).2.2.1 = some x → s.fieldFound? (zCn t) (zTT t f).2.1 (zTT t f).2.2.1 = some x := fun x hx => by rw [hdecl] at hx; exact hx
  have hlen : f < ((List.range (zNF t)).map (fun j => zVal ad h t k j)).length := by simpa using hf
  rw [← hset] at kk
  by_cases hfl : (zTT t f).2.2.2 = false
  · cases hq : Nat.beq nest 0 with
    | true =>
      rw [hq] at hl
      exact va_put hx hb hts hin (zTy t) (zTyOk t hc) (zNmOk t hc) hown hK hP hD hS k he (zVw t hc) f hf (hts _ (zw_in hl)) hsame hfl (zTyOk t hc f hf) hn hft hlen hd kk
    | false =>
      rw [hq] at hl
      exact va_putN hx hb hts hin (zTy t) (zTyOk t hc) (zNmOk t hc) hown hK hP hD hS k he (zVw t hc) f hf (va_Nw.use rfl (hnw.1 _ _ _ _ _ _ (zwn_in hl))) hsame hfl (zTyOk t hc f hf) hn hft hlen hd kk
  · rcases hfin with hz | ⟨hz1, hz2, hz3⟩
    · exact absurd hz hfl
    · subst hz3
      exact va_putF hx hb hts hin (zTy t) (zTyOk t hc) (zNmOk t hc) hown hK hP hD hS k he (zVw t hc) f hf (hts _ (zw_in hl)) hsame (by simpa using hfl) (hini hz1) (by rw [hdecl, hz2]) (zTyOk t hc f hf) hn hft hlen hd kk
end ZM
end
section
/-! Soundness of all that reads and writes cells, and of what makes them. -/
theorem zu_at (g : Nat → Nat → Int32) (k j : Nat) (x : Int32) : zu g k j x k = upd (g k) j x := by
  funext q
  simp [zu, upd]
theorem zcp_at (g : Nat → Nat → Int32) (k0 k1 sp dp n : Nat) : zcp g k0 k1 sp dp n k1 = va_cpy (g k0) (g k1) sp dp n := by
  funext q
  simp [zcp, va_cpy]
section ZM2
variable {p : Program} {l : Launch} {e : Env} {R : Room} {s : State} {m : MethodId} {args : Array Value} {below : List Frame} {meth : Method} {c : Code} {H : Heap} {locs : List Loc} {cells slots : Nat} {Q : State → Prop}
variable {i pc len b L nL : Nat} {xs : Nat → Int32} {ad : Nat → Nat} {D : va_G} {cs : zCs} {A : Nat → Prop} {ls : Array Slot} {rest : List Value} {ins : Instr} {h h' : zH} {st st' : List Value}
theorem zWd_10 {k n : Nat} (h2 : h.1[k]? = some (10, n)) : (zWd cs ad h)[k]? = some (ad k, .inl (cs.1, n, .inl (h.2.2.1 k))) := zWd_at h2
theorem zWd_11 {k n : Nat} (h2 : h.1[k]? = some (11, n)) : (zWd cs ad h)[k]? = some (ad k, .inl (cs.2.1, n, .inl (h.2.2.1 k))) := zWd_at h2
theorem zWd_12 {k n : Nat} (h2 : h.1[k]? = some (12, n)) : (zWd cs ad h)[k]? = some (ad k, .inl (cs.2.2.1, n, .inr (.inr (.inr (.inr (fun j => (zsr h k j).map ad)))))) := zWd_at h2
theorem zWd_13 {k n : Nat} (h2 : h.1[k]? = some (13, n)) : (zWd cs ad h)[k]? = some (ad k, .inl (cs.2.2.2, n, .inr (.inr (.inr (.inr (fun j => (zsr h k j).map ad)))))) := zWd_at h2
theorem zWd_i {k n j : Nat} {x : Int32} (h2 : h.1[k]? = some (10, n)) : (zWd cs ad h).set k (ad k, .inl (cs.1, n, .inl (upd (h.2.2.1 k) j x))) = zWd cs ad (h.1, h.2.1, zu h.2.2.1 k j x, h.2.2.2) := by
  refine zWd_set rfl h2 ?_ ?_
  · show @Sum.inl (ClassId × vp_A) (Nat × List Value) (cs.1, n, .inl (zu h.2.2.1 k j x k)) = _
    rw [zu_at]
  · intro k' q' hne _
    exact zEnt_of (by funext j; simp [zu, hne]) rfl (fun _ => rfl)
theorem zs_mem (Cx : zCx D cs b L xs A i p R s m args meth c) (hd : decode (zB i) pc = .ok (ins, len)) (hP : va_P D vwCl (zWd cs ad h) H) (hD : va_D A (zWd cs ad h)) (hS : va_S A s.heap H locs) (hls : ls.size = zML i) (hcl : cells ≤ R.cells) (hsl : slots ≤ R.slots) (hz : zMem i L xs ins len st h = some (st', h'))
    (kk : ∀ (H1 : Heap) (locs1 : List Loc), va_P D vwCl (zWd cs ad h') H1 → va_D A (zWd cs ad h') → va_S A s.heap H1 locs1 → W p l e R s m args below meth c H1 locs1 cells slots Q (F0 m (pc + len) ls (st'.map (zv b ad)))) : W p l e R s m args below meth c H locs cells slots Q (F0 m pc ls (st.map (zv b ad))) := by
  obtain ⟨hx, hb, hml, hown, hts, hnw, hini, hK, hX, hbl, hbA, hA, hR1, hR2, hR3, hR4⟩ := id Cx
  unfold zMem at hz
  split at hz
  · rename_i idx k st
    split at hz
    · rename_i C f nest pp t n h1 h2
      obtain ⟨h3, h4⟩ := zifc hz
      obtain ⟨v, h5, h6⟩ := Option.map_eq_some_iff.mp h4
      cases h6
      simp only [Bool.and_eq_true, Nat.beq_eq] at h3
      exact zs_getf Cx hd hP h1 h2 h3 h5 (kk H locs hP hD hS)
    · cases hz
  · rename_i idx v k st
    split at hz
    · rename_i C f nest pp t n h1 h2
      obtain ⟨h3, h4⟩ := zifc hz
      obtain ⟨g, h5, h6⟩ := Option.map_eq_some_iff.mp h4
      cases h6
      simp only [Bool.and_eq_true, Nat.beq_eq, Bool.or_eq_true, Bool.not_eq_true', decide_eq_true_eq] at h3
      exact zs_putf Cx hd hP hD hS h1 h2 h3.1 (h3.2.imp id (fun q => ⟨q.1.1, q.1.2, q.2⟩)) h5 kk
    · cases hz
  · rename_i j k st
    split at hz
    · rename_i n h2
      obtain ⟨h3, h4⟩ := zifb hz
      cases h4
      exact va_iald hx hb hK hP k 0 (zWd_10 h2) rfl (zin_in h3) hd (kk H locs hP hD hS)
    · cases hz
  · rename_i j st
    obtain ⟨h3, h4⟩ := zifb hz
    cases h4
    exact va_sld hx hb hX hbl hbA hS (zin_in h3) hd (kk H locs hP hD hS)
  · rename_i st
    cases hz
    exact va_slen hx hb hX hbl hbA hS hd (kk H locs hP hD hS)
  · rename_i x j k st
    split at hz
    · rename_i n h2
      obtain ⟨h3, h4⟩ := zifb hz
      cases h4
      exact va_iast hx hb hK hP hD hS k 0 (zWd_10 h2) rfl (zin_in h3) hd (fun H1 locs1 p1 d1 s1 => kk H1 locs1 (by rw [← zWd_i h2]; exact p1) (by rw [← zWd_i h2]; exact d1) s1)
    · cases hz
  · rename_i j k st
    split at hz
    · rename_i n h2
      obtain ⟨h3, h4⟩ := zifb hz
      cases h4
      exact va_zald hx hb hK hP k 1 (zWd_11 h2) rfl (zin_in h3) hd (kk H locs hP hD hS)
    · cases hz
  · rename_i x j k st
    split at hz
    · rename_i n h2
      obtain ⟨h3, h4⟩ := zifb hz
      cases h4
      simp only [Bool.and_eq_true, Bool.or_eq_true, decide_eq_true_eq] at h3
      have e : (zWd cs ad h).set k (ad k, .inl (cs.2.1, n, .inl (upd (h.2.2.1 k) j.toNatClampNeg (vp_nar .boolean x)))) = zWd cs ad (h.1, h.2.1, zu h.2.2.1 k j.toNatClampNeg x, h.2.2.2) := by
        have e2 : vp_nar .boolean x = x := by rcases h3.2 with rfl | rfl <;> decide
        rw [e2]
        refine zWd_set rfl h2 ?_ ?_
        · show @Sum.inl (ClassId × vp_A) (Nat × List Value) (cs.2.1, n, .inl (zu h.2.2.1 k _ x k)) = _
          rw [zu_at]
        · intro k' q' hne _
          exact zEnt_of (by funext j; simp [zu, hne]) rfl (fun _ => rfl)
      exact va_zast hx hb hK hP hD hS k 1 (zWd_11 h2) rfl (zin_in h3.1) hd (fun H1 locs1 p1 d1 s1 => kk H1 locs1 (by rw [← e]; exact p1) (by rw [← e]; exact d1) s1)
    · cases hz
  · rename_i j k st
    split at hz
    · rename_i n h2
      obtain ⟨h3, h4⟩ := zifc hz
      obtain ⟨a, h5, h6⟩ := Option.map_eq_some_iff.mp h4
      cases h6
      refine va_aldq hx hb hK hP k 2 (zWd_12 h2) rfl (zin_in h3) hd ?_
      rw [h5]
      exact kk H locs hP hD hS
    · rename_i n h2
      obtain ⟨h3, h4⟩ := zifc hz
      obtain ⟨a, h5, h6⟩ := Option.map_eq_some_iff.mp h4
      cases h6
      refine va_aldq hx hb hK hP k 3 (zWd_13 h2) rfl (zin_in h3) hd ?_
      rw [h5]
      exact kk H locs hP hD hS
    · cases hz
  · rename_i a j k st
    have up : ∀ {k : Nat}, j.toNatClampNeg < ((h.2.1[k]?).getD []).length → (fun f => (zsr (h.1, zusr h.2.1 k j.toNatClampNeg a, h.2.2.1, h.2.2.2) k f).map ad) = va_up (fun f => (zsr h k f).map ad) j.toNatClampNeg (some (ad a)) := by
      intro k hlt
      funext f
      rw [zsr_set hlt]
      by_cases hf : f = j.toNatClampNeg
      · rw [if_pos ⟨rfl, hf⟩]; simp [va_up, hf]
      · rw [if_neg (fun q => hf q.2)]; simp [va_up, hf]
    have off : ∀ {k : Nat}, j.toNatClampNeg < ((h.2.1[k]?).getD []).length → ∀ k' q', k' ≠ k → h.1[k']? = some q' → zEnt cs ad (h.1, zusr h.2.1 k j.toNatClampNeg a, h.2.2.1, h.2.2.2) k' q' = zEnt cs ad h k' q' := by
      intro k hlt k' q' hne _
      exact zEnt_of rfl rfl (fun f' => by rw [zsr_set hlt, if_neg (fun q => hne q.1)])
    split at hz
    · rename_i n h2 h2a
      obtain ⟨h3, h4⟩ := zifb hz
      cases h4
      simp only [Bool.and_eq_true, Nat.blt_eq] at h3
      have e := zWd_set (cs := cs) (ad := ad) (h := h) (h' := (h.1, zusr h.2.1 k j.toNatClampNeg a, h.2.2.1, h.2.2.2)) rfl h2 (show _ = @Sum.inl (ClassId × vp_A) (Nat × List Value) (cs.2.2.1, n, .inr (.inr (.inr (.inr (va_up (fun f => (zsr h k f).map ad) j.toNatClampNeg (some (ad a))))))) by rw [← up h3.2]; rfl) (off h3.2)
      exact va_astq hx hb hK hP hD hS k 2 a 1 (r := (RX1, TX1, 5)) (zWd_12 h2) rfl (zWd_at h2a) rfl (zin_in h3.1) hd (fun H1 locs1 p1 d1 s1 => kk H1 locs1 (by rw [← e]; exact p1) (by rw [← e]; exact d1) s1)
    · rename_i n h2 h2a
      obtain ⟨h3, h4⟩ := zifb hz
      cases h4
      simp only [Bool.and_eq_true, Nat.blt_eq] at h3
      have e := zWd_set (cs := cs) (ad := ad) (h := h) (h' := (h.1, zusr h.2.1 k j.toNatClampNeg a, h.2.2.1, h.2.2.2)) rfl h2 (show _ = @Sum.inl (ClassId × vp_A) (Nat × List Value) (cs.2.2.2, n, .inr (.inr (.inr (.inr (va_up (fun f => (zsr h k f).map ad) j.toNatClampNeg (some (ad a))))))) by rw [← up h3.2]; rfl) (off h3.2)
      exact va_astq hx hb hK hP hD hS k 3 a 6 (r := (RX6, TX6, 4)) (zWd_13 h2) rfl (zWd_at h2a) rfl (zin_in h3.1) hd (fun H1 locs1 p1 d1 s1 => kk H1 locs1 (by rw [← e]; exact p1) (by rw [← e]; exact d1) s1)
    · cases hz
  · rename_i idx a st
    split at hz
    · rename_i y pp h1
      obtain ⟨h3, h4⟩ := zifb hz
      cases h4
      simp only [Bool.and_eq_true, Nat.ble_eq] at h3
      have hM := zMS_ok _ (zlook h1)
      simp only [zMok, Bool.and_eq_true] at hM
      refine W.objInit hx hb hown (hts _ (zw_in hM.1.1)) (hts _ (zw_in hM.1.2)) (hts _ (zw_in hM.2)) rfl (by rw [hml]; exact hls) rfl hd (by omega) ?_ (kk H locs hP hD hS)
      have h5 := zv_cats b ad st'
      show 2 * 0 + ((st'.map (zv b ad)).map (fun v : Value => v.category)).sum + 12 ≤ R.locals
      omega
    · cases hz
  · rename_i idx n dp k1 sp k0 st
    split at hz
    · rename_i y pp n0 n1 h1 h2 h2b
      obtain ⟨h3, h4⟩ := zifb hz
      cases h4
      simp only [Bool.and_eq_true, Nat.ble_eq, Bool.not_eq_true', decide_eq_false_iff_not] at h3
      obtain ⟨⟨⟨⟨⟨⟨⟨r1, r2⟩, r3⟩, r4⟩, r5⟩, r6⟩, r7⟩, r8⟩ := h3
      have hM := zMS_ok _ (zlook h1)
      simp only [zMok, Bool.and_eq_true] at hM
      have h5 := zv_cats b ad st'
      have e : (zWd cs ad h).set k1 (ad k1, .inl (cs.1, n1, .inl (va_cpy (h.2.2.1 k0) (h.2.2.1 k1) sp.toNatClampNeg dp.toNatClampNeg n.toNatClampNeg))) = zWd cs ad (h.1, h.2.1, zcp h.2.2.1 k0 k1 sp.toNatClampNeg dp.toNatClampNeg n.toNatClampNeg, h.2.2.2) := by
        refine zWd_set rfl h2b ?_ ?_
        · show @Sum.inl (ClassId × vp_A) (Nat × List Value) (cs.1, n1, .inl (zcp h.2.2.1 k0 k1 _ _ _ k1)) = _
          rw [zcp_at]
        · intro k' q' hne _
          exact zEnt_of (by funext j; simp [zcp, hne]) rfl (fun _ => rfl)
      exact va_copyi hx hb (by rw [hml]; exact hls.symm) hown (hts _ (zw_in hM.1.1.1)) (hts _ (zw_in hM.1.1.2)) (hts _ (zw_in hM.1.2)) (hts _ (zw_in hM.2)) hK hP hD hS k0 k1 0 0 (zWd_10 h2) (zWd_10 h2b) rfl rfl rfl r4 r5 r6 r7 r8 (fun _ _ => rfl) (by omega) (by
        show ((st'.map (zv b ad)).map (fun v : Value => v.category)).sum + (nativeFrameWords "java/lang/System" "arraycopy" 5 + 11) ≤ R.locals
        have : nativeFrameWords "java/lang/System" "arraycopy" 5 = 7 := by decide
        omega) hd (fun H1 locs1 p1 d1 s1 => kk H1 locs1 (by rw [← e]; exact p1) (by rw [← e]; exact d1) s1)
    · cases hz
  · rename_i idx y x st _
    split at hz
    · rename_i y' pp h1
      obtain ⟨h3, h4⟩ := zifb hz
      cases h4
      simp only [Bool.and_eq_true, Nat.ble_eq] at h3
      have hM := zMS_ok _ (zlook h1)
      simp only [zMok, Bool.and_eq_true] at hM
      have h5 := zv_cats b ad st
      exact va_mmax hx hb (by rw [hml]; exact hls.symm) hown (hts _ (zw_in hM.1.1.1)) (hts _ (zw_in hM.1.1.2)) (hts _ (zw_in hM.1.2)) (hts _ (zw_in hM.2)) (by omega) (by
        show ((st.map (zv b ad)).map (fun v : Value => v.category)).sum + 13 ≤ R.locals
        omega) hcl hsl hd (kk H locs hP hD hS)
    · rename_i y' pp h1
      obtain ⟨h3, h4⟩ := zifb hz
      cases h4
      simp only [Bool.and_eq_true, Nat.ble_eq] at h3
      have hM := zMS_ok _ (zlook h1)
      simp only [zMok, Bool.and_eq_true] at hM
      have h5 := zv_cats b ad st
      exact va_mmin hx hb (by rw [hml]; exact hls.symm) hown (hts _ (zw_in hM.1.1.1)) (hts _ (zw_in hM.1.1.2)) (hts _ (zw_in hM.1.2)) (hts _ (zw_in hM.2)) (by omega) (by
        show ((st.map (zv b ad)).map (fun v : Value => v.category)).sum + 13 ≤ R.locals
        omega) hcl hsl hd (kk H locs hP hD hS)
    · cases hz
  · cases hz
theorem zFP_lay {k f : Nat} {C : Nat} {v : Value} (hv : zFP h C k f v = some h') : h'.1 = h.1 := by
  unfold zFP at hv
  split at hv
  · cases hv; rfl
  · obtain ⟨-, rfl⟩ := zifb hv; rfl
  · cases hv; rfl
  · obtain ⟨-, rfl⟩ := zifb hv; rfl
  · cases hv
theorem zMem_lay (hz : zMem i L xs ins len st h = some (st', h')) : h'.1 = h.1 := by
  unfold zMem at hz
  split at hz
  · split at hz
    · obtain ⟨h3, h4⟩ := zifc hz
      obtain ⟨v, h5, h6⟩ := Option.map_eq_some_iff.mp h4
      cases h6; rfl
    · cases hz
  · split at hz
    · obtain ⟨h3, h4⟩ := zifc hz
      obtain ⟨v, h5, h6⟩ := Option.map_eq_some_iff.mp h4
      cases h6
      exact zFP_lay h5
    · cases hz
  · split at hz
    · obtain ⟨h3, h4⟩ := zifb hz
      cases h4; rfl
    · cases hz
  · obtain ⟨h3, h4⟩ := zifb hz
    cases h4; rfl
  · cases hz; rfl
  · split at hz
    · obtain ⟨h3, h4⟩ := zifb hz
      cases h4; rfl
    · cases hz
  · split at hz
    · obtain ⟨h3, h4⟩ := zifb hz
      cases h4; rfl
    · cases hz
  · split at hz
    · obtain ⟨h3, h4⟩ := zifb hz
      cases h4; rfl
    · cases hz
  · split at hz
    · obtain ⟨h3, h4⟩ := zifc hz
      obtain ⟨v, h5, h6⟩ := Option.map_eq_some_iff.mp h4
      cases h6; rfl
    · obtain ⟨h3, h4⟩ := zifc hz
      obtain ⟨v, h5, h6⟩ := Option.map_eq_some_iff.mp h4
      cases h6; rfl
    · cases hz
  · split at hz
    · obtain ⟨h3, h4⟩ := zifb hz
      cases h4; rfl
    · obtain ⟨h3, h4⟩ := zifb hz
      cases h4; rfl
    · cases hz
  · split at hz
    · obtain ⟨h3, h4⟩ := zifb hz
      cases h4; rfl
    · cases hz
  · split at hz
    · obtain ⟨h3, h4⟩ := zifb hz
      cases h4; rfl
    · cases hz
  · split at hz
    · obtain ⟨h3, h4⟩ := zifb hz
      cases h4; rfl
    · obtain ⟨h3, h4⟩ := zifb hz
      cases h4; rfl
    · cases hz
  · cases hz
end ZM2
end
section
/-! Soundness of what makes cells. -/
theorem zWf_parts {n : Nat} {ls : zLs} {st : List Value} {r : List (List (Option Nat))} (h : zWf n ls st r = true) : ls.all (zWo n) = true ∧ st.all (zWv n) = true ∧ zWr n r = true ∧ r.length = n := by
  unfold zWf at h
  simp only [Bool.and_eq_true, Nat.beq_eq] at h
  exact ⟨h.1.1.1, h.1.1.2, h.1.2, h.2⟩
theorem zNew_sr (h : zH) (hl : h.2.1.length = h.1.length) (t n f : Nat) : zsr (zNew h t n) h.1.length f = none := by
  unfold zsr zNew
  dsimp only
  rw [List.getElem?_append_right (by omega), hl, Nat.sub_self]
  show (Option.bind (some _) _).join = none
  rw [Option.bind_some]
  cases (Nat.beq t 10 || Nat.beq t 11)
  · show ((List.replicate n none)[f]?).join = none
    by_cases hf : f < n
    · rw [List.getElem?_replicate, if_pos hf]; rfl
    · rw [List.getElem?_replicate, if_neg hf]; rfl
  · rfl
theorem zNew_at (h : zH) (t n : Nat) : (zNew h t n).2.2.1 h.1.length = (fun _ => 0) ∧ (zNew h t n).2.2.2 h.1.length = 0 := by
  refine ⟨?_, ?_⟩
  · funext j
    show (if h.1.length = h.1.length then _ else _) = _
    rw [if_pos rfl]
  · show (if h.1.length = h.1.length then _ else _) = _
    rw [if_pos rfl]
theorem zdef {h : zH} (hl : h.2.1.length = h.1.length) (ad : Nat → Nat) {c : Nat} (hc : c < 10) (n : Nat) : ∀ j, j < zNF c → defaultValue (zTy c j) = vp_V ((List.range (zNF c)).map (fun f => zVal ad (zNew h c n) c h.1.length f)) j := by
  intro j hj
  unfold vp_V
  rw [List.getD_eq_getElem?_getD, List.getElem?_map, List.getElem?_range hj]
  show _ = zVal ad (zNew h c n) c h.1.length j
  unfold zVal
  rw [(zNew_at h c n).1, (zNew_at h c n).2, zNew_sr h hl]
  have hr := zRefOk c (List.mem_range.mpr hc) j (List.mem_range.mpr hj)
  generalize zTy c j = t at hr ⊢
  cases t <;> first | rfl | (exact absurd (hr rfl) (by simp [zIsR]))
theorem zAl_eq {i n0 len : Nat} {ins : Instr} {zl : zLs} {st : List Value} {h : zH} {r : List Value × zH} (hz : zAl i n0 ins len zl st h = some r) : (zWf h.1.length zl st h.2.1 && Nat.blt h.1.length (n0 + zMc i)) = true ∧ zAlI i ins len st h = some r := by
  unfold zAl at hz
  split at hz
  · exact zifc hz
  · exact zifc hz
  · exact zifc hz
  · cases hz
section ZA
variable {p : Program} {l : Launch} {e : Env} {R : Room} {s : State} {m : MethodId} {args : Array Value} {below : List Frame} {meth : Method} {c : Code} {H : Heap} {locs : List Loc} {Q : State → Prop}
variable {i n0 pc len b L : Nat} {xs : Nat → Int32} {ad : Nat → Nat} {D : va_G} {cs : zCs} {A : Nat → Prop} {ls : Array Slot} {zl : zLs} {ins : Instr} {h h' : zH} {st st' : List Value}
theorem zK_id {k : Nat} {q : ClassId × FieldType} {ty : FieldType} {cA : ClassId} (hK : va_K D vwCl (zTys cs) s) (hq : (zTys cs)[k]? = some q) (ht : q.2 = ty) (hK2 : va_K D vwCl (zTys cs ++ [(cA, ty)]) s) (hr : ∀ a a', va_RA s a ty → va_RA s a' ty → a = a') : cA = q.1 := by
  have h1 := (hK.2 k q hq).2
  have h2 := (hK2.2 4 (cA, ty) (by simp [zTys])).2
  rw [ht] at h1
  exact hr _ _ h2 h1
theorem zRA_int (a a' : ClassId) (h : va_RA s a .int) (h' : va_RA s a' .int) : a = a' := Option.some.inj ((show s.vm.findClass _ = some a from h).symm.trans (show s.vm.findClass _ = some a' from h'))
theorem zRA_bool (a a' : ClassId) (h : va_RA s a .boolean) (h' : va_RA s a' .boolean) : a = a' := Option.some.inj ((show s.vm.findClass _ = some a from h).symm.trans (show s.vm.findClass _ = some a' from h'))
theorem zRA_obj (C : String) (a a' : ClassId) (h : va_RA s a (.object C)) (h' : va_RA s a' (.object C)) : a = a' := by
  obtain ⟨_, _, _, _, _, h1⟩ := h
  obtain ⟨_, _, _, _, _, h2⟩ := h'
  exact Option.some.inj (h1.symm.trans h2)
theorem zs_al (Cx : zCx D cs b L xs A i p R s m args meth c) (hd : decode (zB i) pc = .ok (ins, len)) (hP : va_P D vwCl (zWd cs ad h) H) (hD : va_D A (zWd cs ad h)) (hS : va_S A s.heap H locs) (hL : zLV b ad (zML i) zl ls) (hn : n0 ≤ h.1.length) (hz : zAl i n0 ins len zl st h = some (st', h'))
    (kk : ∀ (ad' : Nat → Nat) (H1 : Heap), (∀ k, k < h.1.length → ad' k = ad k) → va_P D vwCl (zWd cs ad' h') H1 → va_D A (zWd cs ad' h') → va_S A s.heap H1 locs → zLV b ad' (zML i) zl ls → W p l e R s m args below meth c H1 locs (h'.1.length - n0) (500 * (h'.1.length - n0)) Q (F0 m (pc + len) ls (st'.map (zv b ad')))) : W p l e R s m args below meth c H locs (h.1.length - n0) (500 * (h.1.length - n0)) Q (F0 m pc ls (st.map (zv b ad))) := by
  obtain ⟨hx, hb, hml, hown, hts, hnw, hini, hK, hX, hbl, hbA, hA, hR1, hR2, hR3, hR4⟩ := id Cx
  have hq := zAl_eq hz
  clear hz
  obtain ⟨hw, hz⟩ := hq
  unfold zAlI at hz
  simp only [Bool.and_eq_true, Nat.blt_eq] at hw
  obtain ⟨hw, hroom⟩ := hw
  obtain ⟨w1, w2, w3, w4⟩ := zWf_parts hw
  have hup : ∀ q k, k < h.1.length → va_up ad h.1.length q k = ad k := fun q k hk => by unfold va_up; rw [if_neg (Nat.ne_of_lt hk)]
  have len' : ∀ t n, (zNew h t n).1.length = h.1.length + 1 := fun t n => by simp [zNew]
  -- what is behind every making of a cell
  have go : ∀ (t n q : Nat) (st0 : List Value) (N' d : Nat) (H1 : Heap), N' ≤ 500 → st0.all (zWv h.1.length) = true → (h' = zNew h t n ∧ st' = .ref h.1.length :: st0) → va_P D vwCl (zWd cs ad h ++ [(q, zEnt cs (va_up ad h.1.length q) (zNew h t n) h.1.length (t, n))]) H1 → va_D A (zWd cs ad h ++ [(q, zEnt cs (va_up ad h.1.length q) (zNew h t n) h.1.length (t, n))]) → va_S A s.heap H1 locs → len = d → W p l e R s m args below meth c H1 locs (h.1.length - n0 + 1) (500 * (h.1.length - n0) + N') Q (F0 m (pc + d) ls (.ref q :: st0.map (zv b ad))) := by
    intro t n q st0 N' d H1 hN' hst0 he p1 d1 s1 hd2
    obtain ⟨rfl, rfl⟩ := he
    subst hd2
    rw [← zWd_new w3 w4] at p1 d1
    have k1 := kk (va_up ad h.1.length q) H1 (hup q) p1 d1 s1 (hL.agree (hup q) w1)
    rw [len', List.map_cons, zvs_agree (hup q) hst0] at k1
    have e1 : zv b (va_up ad h.1.length q) (.ref h.1.length) = .ref q := by
      show Value.ref (va_up ad h.1.length q h.1.length) = _
      simp [va_up]
    rw [e1] at k1
    exact W.widen (k := h.1.length + 1 - n0) (n := 500 * (h.1.length + 1 - n0)) (by omega) (by omega) k1
  split at hz
  · rename_i idx
    split at hz
    · rename_i C r h1
      cases hz
      have hC := zCS_ok _ (zlook h1)
      simp only [zCok, Bool.and_eq_true, Nat.blt_eq] at hC
      obtain ⟨⟨⟨hc, c1⟩, c2⟩, c3⟩ := hC
      have hNF : zNF C ≤ 500 := by
        have : ∀ k ∈ List.range 10, zNF k ≤ 500 := by decide
        exact this C (List.mem_range.mpr hc)
      have hE : ∀ a, zEnt cs a (zNew h C (zNF C)) h.1.length (C, zNF C) = .inr (C, (List.range (zNF C)).map (fun f => zVal a (zNew h C (zNF C)) C h.1.length f)) := fun a => by
        unfold zEnt
        rw [show Nat.blt (C, zNF C).1 10 = true by simpa [Nat.blt_eq] using hc]
        rfl
      have hV : ∀ a a', (List.range (zNF C)).map (fun f => zVal a (zNew h C (zNF C)) C h.1.length f) = (List.range (zNF C)).map (fun f => zVal a' (zNew h C (zNF C)) C h.1.length f) := fun a a' => List.map_congr_left (fun f _ => by unfold zVal; rw [zNew_sr h w4]; rfl)
      refine va_new hx hb hts (zCl_ok C (List.mem_range.mpr hc)) (zTy C) (zTyOk C hc) hown (hts _ (zw_in c1)) (hts _ (zw_in c2)) (hts _ (zw_in c3)) hK hP hD hS hA (zVw C hc) (zdef w4 ad hc (zNF C)) (by omega) (by omega) hd (fun q H1 p1 d1 s1 => ?_)
      refine go C (zNF C) q st (zNF C) 3 H1 hNF w2 ⟨rfl, rfl⟩ ?_ ?_ s1 rfl
      · rw [hE, hV _ ad]; exact p1
      · rw [hE, hV _ ad]; exact d1
    · cases hz
  · rename_i n st0
    obtain ⟨h3, h4⟩ := zifb hz
    simp only [Bool.and_eq_true, Bool.not_eq_true', decide_eq_false_iff_not, Nat.ble_eq] at h3
    cases h4
    have w2' : st0.all (zWv h.1.length) = true := by simpa [zWv] using w2
    refine va_newa hx hb (atype := .int) (hts _ (zw_in zAr_ok.1)) rfl hK hP hD hS hA (a0 := (n.toNatClampNeg, .inl (fun _ => 0))) (fun cA => by rw [vp_cell_i]; rfl) h3.1 rfl (by show _ * 4 ≤ _; omega) (by omega) (by omega) hd (fun q cA H1 k1 p1 d1 s1 => ?_)
    have e := zK_id (k := 0) hK rfl rfl k1 zRA_int
    subst e
    have hE : zEnt cs (va_up ad h.1.length q) (zNew h 10 n.toNatClampNeg) h.1.length (10, n.toNatClampNeg) = .inl (cs.1, n.toNatClampNeg, .inl (fun _ => 0)) := by
      show @Sum.inl (ClassId × vp_A) (Nat × List Value) (cs.1, n.toNatClampNeg, .inl ((zNew h 10 n.toNatClampNeg).2.2.1 h.1.length)) = _
      rw [(zNew_at h _ _).1]
    refine go 10 n.toNatClampNeg q st0 n.toNatClampNeg 2 H1 h3.2 w2' ⟨rfl, rfl⟩ ?_ ?_ s1 rfl
    · rw [hE]; exact p1
    · rw [hE]; exact d1
  · rename_i n st0
    obtain ⟨h3, h4⟩ := zifb hz
    simp only [Bool.and_eq_true, Bool.not_eq_true', decide_eq_false_iff_not, Nat.ble_eq] at h3
    cases h4
    have w2' : st0.all (zWv h.1.length) = true := by simpa [zWv] using w2
    refine va_newa hx hb (atype := .boolean) (hts _ (zw_in zAr_ok.2.1)) rfl hK hP hD hS hA (a0 := (n.toNatClampNeg, .inl (fun _ => 0))) (fun cA => by rw [vp_cell_i]; rfl) h3.1 rfl (by show _ * 1 ≤ _; omega) (by omega) (by omega) hd (fun q cA H1 k1 p1 d1 s1 => ?_)
    have e := zK_id (k := 1) hK rfl rfl k1 zRA_bool
    subst e
    have hE : zEnt cs (va_up ad h.1.length q) (zNew h 11 n.toNatClampNeg) h.1.length (11, n.toNatClampNeg) = .inl (cs.2.1, n.toNatClampNeg, .inl (fun _ => 0)) := by
      show @Sum.inl (ClassId × vp_A) (Nat × List Value) (cs.2.1, n.toNatClampNeg, .inl ((zNew h 11 n.toNatClampNeg).2.2.1 h.1.length)) = _
      rw [(zNew_at h _ _).1]
    refine go 11 n.toNatClampNeg q st0 n.toNatClampNeg 2 H1 h3.2 w2' ⟨rfl, rfl⟩ ?_ ?_ s1 rfl
    · rw [hE]; exact p1
    · rw [hE]; exact d1
  · rename_i idx n st0
    have hq := zifc hz
    clear hz
    obtain ⟨h3, hz⟩ := hq
    simp only [Bool.and_eq_true, Bool.not_eq_true', decide_eq_false_iff_not, Nat.ble_eq] at h3
    have w2' : st0.all (zWv h.1.length) = true := by simpa [zWv] using w2
    split at hz
    · rename_i r h1
      cases hz
      have hC := zCS_ok _ (zlook h1)
      simp only [zCok, Bool.and_eq_true, Nat.blt_eq] at hC
      obtain ⟨⟨⟨hc, c1⟩, c2⟩, c3⟩ := hC
      refine va_newq (C := "BogTown$House") hx hb hown (hts _ (zw_in c1)) hnw.2.2.1 hK hP hD hS hA h3.1 rfl (by omega) (by omega) (by omega) hd (fun q cA H1 k1 p1 d1 s1 => ?_)
      have e := zK_id (k := 2) hK rfl rfl k1 (zRA_obj _)
      subst e
      have hE : zEnt cs (va_up ad h.1.length q) (zNew h 12 n.toNatClampNeg) h.1.length (12, n.toNatClampNeg) = .inl (cs.2.2.1, n.toNatClampNeg, .inr (.inr (.inr (.inr (fun _ => none))))) := by
        show @Sum.inl (ClassId × vp_A) (Nat × List Value) (cs.2.2.1, n.toNatClampNeg, .inr (.inr (.inr (.inr (fun j => (zsr (zNew h 12 n.toNatClampNeg) h.1.length j).map _))))) = _
        simp only [zNew_sr h w4, Option.map_none]
      refine go 12 n.toNatClampNeg q st0 n.toNatClampNeg 3 H1 h3.2 w2' ⟨rfl, rfl⟩ ?_ ?_ s1 rfl
      · rw [hE]; exact p1
      · rw [hE]; exact d1
    · rename_i r h1
      cases hz
      have hC := zCS_ok _ (zlook h1)
      simp only [zCok, Bool.and_eq_true, Nat.blt_eq] at hC
      obtain ⟨⟨⟨hc, c1⟩, c2⟩, c3⟩ := hC
      refine va_newq (C := "BogTown$Sheet") hx hb hown (hts _ (zw_in c1)) hnw.2.2.2 hK hP hD hS hA h3.1 rfl (by omega) (by omega) (by omega) hd (fun q cA H1 k1 p1 d1 s1 => ?_)
      have e := zK_id (k := 3) hK rfl rfl k1 (zRA_obj _)
      subst e
      have hE : zEnt cs (va_up ad h.1.length q) (zNew h 13 n.toNatClampNeg) h.1.length (13, n.toNatClampNeg) = .inl (cs.2.2.2, n.toNatClampNeg, .inr (.inr (.inr (.inr (fun _ => none))))) := by
        show @Sum.inl (ClassId × vp_A) (Nat × List Value) (cs.2.2.2, n.toNatClampNeg, .inr (.inr (.inr (.inr (fun j => (zsr (zNew h 13 n.toNatClampNeg) h.1.length j).map _))))) = _
        simp only [zNew_sr h w4, Option.map_none]
      refine go 13 n.toNatClampNeg q st0 n.toNatClampNeg 3 H1 h3.2 w2' ⟨rfl, rfl⟩ ?_ ?_ s1 rfl
      · rw [hE]; exact p1
      · rw [hE]; exact d1
    · cases hz
  · cases hz
end ZA
end
section
/-! The soundness of the abstract machine: what ev says, the real one does. -/
theorem zMSc : ∀ e ∈ zMS, (e.2.2.1 = 0 ∨ e.2.2.1 = 1 ∨ e.2.2.1 = 4 ∨ e.2.2.1 = 5) → zC e.2.1 < 10 := by decide +kernel
def zRm (j : Nat) : Room := { frames := zFr j, cells := zMc j, slots := 500 * zMc j, locals := zLo j }
def zPre (D : va_G) (cs : zCs) (b L : Nat) (xs : Nat → Int32) (A : Nat → Prop) (ad : Nat → Nat) (h : zH) (U : State) : Prop := va_P D vwCl (zWd cs ad h) U.heap ∧ va_D A (zWd cs ad h) ∧ va_K D vwCl (zTys cs) U ∧ zNw U ∧ va_X b L xs U U.heap ∧ b < U.heap.size ∧ ¬ A b ∧ (∀ q, U.heap.size ≤ q → A q)
def zBk (D : va_G) (cs : zCs) (A : Nat → Prop) (ad : Nat → Nat) (n : Nat) (h' : zH) (j : Nat) (ad' : Nat → Nat) (t : State) : Prop := (∀ k, k < n → ad' k = ad k) ∧ (zMc j = 0 → ad' = ad) ∧ h'.1.length = n + zMc j ∧ va_P D vwCl (zWd cs ad' h') t.heap ∧ va_D A (zWd cs ad' h')
def zQ (D : va_G) (cs : zCs) (A : Nat → Prop) (ad : Nat → Nat) (n : Nat) (h' : zH) (j : Nat) (v : Option Value) : Array Value → State → Outcome → State → Prop := match v with
  | some (.int x) => va_Qi (fun r (_ : Nat → Nat) => r = x) (zBk D cs A ad n h' j) A
  | some (.long x) => va_Ql (fun r (_ : Nat → Nat) => r = x) (zBk D cs A ad n h' j) A
  | some (.ref a) => va_Qr (fun (_ : Nat → Nat) => True) (fun ad' ra t => ra = ad' a ∧ zBk D cs A ad n h' j ad' t) A
  | none => va_Qv (fun (_ : Nat → Nat) => True) (zBk D cs A ad n h' j) A
  | _ => fun _ _ _ _ => False
def zRtn (l : Launch) (D : va_G) (cs : zCs) (b : Nat) (A : Nat → Prop) (p : Program) (e : Env) (R : Room) (s : State) (m : MethodId) (args : Array Value) (below : List Frame) (meth : Method) (c : Code) (i n0 : Nat) (ad0 : Nat → Nat) (Q : State → Prop) (r : Option Value) (h' : zH) : Prop := ∀ (pc' : Nat) (ls' : Array Slot) (H' : Heap) (locs' : List Loc) (ad' : Nat → Nat) (ins : Instr) (len : Nat) (st' : List Value), decode (zB i) pc' = .ok (ins, len) → zRt i n0 h'.1.length ins len st' = some r → (∀ k, k < n0 → ad' k = ad0 k) → (zMc i = 0 → ad' = ad0) → n0 ≤ h'.1.length → h'.1.length ≤ n0 + zMc i → va_P D vwCl (zWd cs ad' h') H' → va_D A (zWd cs ad' h') → va_S A s.heap H' locs' → W p l e R s m args below meth c H' locs' (h'.1.length - n0) (500 * (h'.1.length - n0)) Q (F0 m pc' ls' (st'.map (zv b ad')))
def zOk (l : Launch) (D : va_G) (cs : zCs) (b L : Nat) (xs : Nat → Int32) (A : Nat → Prop) (n : Nat) : Prop := ∀ (p : Program) (e : Env) (R : Room) (s : State) (m : MethodId) (args : Array Value) (below : List Frame) (meth : Method) (c : Code) (i n0 pc : Nat) (zl : zLs) (st : List Value) (h : zH) (r : Option Value) (h' : zH) (ad0 ad : Nat → Nat) (H : Heap) (locs : List Loc) (ls : Array Slot) (Q : State → Prop), ev L xs n i n0 pc zl st h = some (r, h') → zCx D cs b L xs A i p R s m args meth c → n0 ≤ h.1.length → h.1.length ≤ n0 + zMc i → (∀ k, k < n0 → ad k = ad0 k) → (zMc i = 0 → ad = ad0) → va_P D vwCl (zWd cs ad h) H → va_D A (zWd cs ad h) → va_S A s.heap H locs → zLV b ad (zML i) zl ls → zRtn l D cs b A p e R s m args below meth c i n0 ad0 Q r h' → W p l e R s m args below meth c H locs (h.1.length - n0) (500 * (h.1.length - n0)) Q (F0 m pc ls (st.map (zv b ad)))
section ZC
variable {l : Launch} {D : va_G} {cs : zCs} {b L : Nat} {xs : Nat → Int32} {A : Nat → Prop} {n : Nat}
theorem zMet (ih : zOk l D cs b L xs A n) {j : Nat} (hj : j < 168) {h h' : zH} {ad : Nat → Nat} {as : List Value} {v : Option Value} (hev : ev L xs n j h.1.length 0 (zArgs as (zML j)) [] h = some (v, h')) (hargs : (zArgs as 0).length ≤ zML j) : Met l (zY j) (.code (zY j) (zB j) (zML j) (zRet j) :: zG) (zRm j) (va_Pc (as.map (zv b ad)) (zPre D cs b L xs A ad h)) (zQ D cs A ad h.1.length h' j v) (zMc j) (500 * zMc j) A := by
  have hjr : j ∈ List.range 168 := List.mem_range.mpr hj
  refine Met.ofW (cc := zB j) (maxL := zML j) (ret := zRet j) (zD2 j hjr) rfl ?_
  intro p e s m args below meth c s₁ B hml hv
  obtain ⟨rfl, hP, hD, hK, hN, hX, hbl, hbA, hA⟩ := hv
  have hx := B.exec
  have hb := B.bytes
  have hr := B.returns
  have hts := atoms_spec (ws := .code (zY j) (zB j) (zML j) (zRet j) :: zG) B.pre
  have hown : s.vm.findClass (zY j).cls = some m.cls := findClass_of_methodNamed B.named
  have hlocks := B.notSynchronized
  have hin : meth.name = (zY j).name := (name_of_methodNamed B.named B.method).1
  have hl := zArgs_LV b ad as (zML j) hargs
  rw [lg_entry_eq]
  generalize (lg_sl (as.map (zv b ad)) ++ List.replicate (zML j - (lg_sl (as.map (zv b ad))).length) Slot.unset).toArray = ls at hl ⊢
  have Cx : zCx D cs b L xs A j p (zRm j) s m (as.map (zv b ad)).toArray meth c := ⟨hx, hb, hml, by rw [← zD5 j hjr]; exact hown, fun w hw => hts w (List.mem_cons_of_mem _ hw), hN, fun q => hin.trans q, hK, hX, hbl, hbA, hA, Nat.le_refl _, Nat.le_refl _, Nat.le_refl _, Nat.le_refl _⟩
  have k := ih p e (zRm j) s m (as.map (zv b ad)).toArray below meth c j h.1.length 0 (zArgs as (zML j)) [] h v h' ad ad s.heap [] ls (MQ below (zQ D cs A ad h.1.length h' j v) (as.map (zv b ad)).toArray s (zMc j) (500 * zMc j) A) hev Cx (Nat.le_refl _) (by omega) (fun _ _ => rfl) (fun _ => rfl) hP hD va_S.rf hl ?_
  · rw [Nat.sub_self] at k
    exact k
  · intro pc' ls' H' locs' ad' ins len st' hd hrt ha1 ha2 hn _ hP' hD' hS'
    unfold zRt at hrt
    have hq := zifc hrt
    clear hrt
    obtain ⟨hq1, hrt⟩ := hq
    have hlen : h'.1.length = h.1.length + zMc j := by
      simp only [Bool.or_eq_true, Nat.beq_eq] at hq1
      rcases hq1 with q | q
      · exact q
      · exact absurd q (by unfold zLaw; omega)
    rw [show h'.1.length - h.1.length = zMc j by omega]
    have hB : ∀ t : State, t.heap = H' → zBk D cs A ad h.1.length h' j ad' t := fun t ht => ⟨ha1, ha2, hlen, by rw [ht]; exact hP', hD'⟩
    split at hrt
    · rename_i hret
      cases hrt
      exact W.iret hx hb (by rw [hr, hret]) (fun t ht _ => ⟨⟨_, ad', rfl, rfl, hB t ht⟩, hS'.F ht⟩) hS'.2.2 hd hlocks
    · rename_i x hret
      obtain ⟨hx01, hrt2⟩ := zifb hrt
      cases hrt2
      have hx2 : x = 0 ∨ x = 1 := by simpa using hx01
      exact W.zret hx hb (by rw [hr, hret]) (zbool_n hx2).1 (fun t ht _ => ⟨⟨_, ad', rfl, rfl, hB t ht⟩, hS'.F ht⟩) hS'.2.2 hd hlocks
    · rename_i hret
      cases hrt
      exact W.lret hx hb (by rw [hr, hret]) (fun t ht _ => ⟨⟨_, ad', rfl, rfl, hB t ht⟩, hS'.F ht⟩) hS'.2.2 hd hlocks
    · rename_i C a hret
      cases hrt
      exact W.aret hx hb (by rw [hr, hret]) (Or.inl ⟨C, rfl⟩) (Or.inr ⟨_, rfl⟩) (fun t ht _ => ⟨⟨ad', _, rfl, trivial, rfl, hB t ht⟩, hS'.F ht⟩) hS'.2.2 hd hlocks
    · rename_i hret
      cases hrt
      exact W.vret hx hb (by rw [hr, hret]) (fun t ht _ => ⟨⟨ad', rfl, trivial, hB t ht⟩, hS'.F ht⟩) hS'.2.2 hd hlocks
    · cases hrt
theorem zGood {j : Nat} (hj : j < 168) : GoodIn zG (.code (zY j) (zB j) (zML j) (zRet j) :: zG) := by
  intro w hw
  have hm : w ∈ zG := by
    rcases List.mem_cons.mp hw with rfl | q
    · exact zCode_in hj
    · exact q
  exact ⟨hm, good_of_word (zG_good hm)⟩
variable {p : Program} {e : Env} {R : Room} {s : State} {m : MethodId} {args : Array Value} {below : List Frame} {meth : Method} {c : Code} {H : Heap} {locs : List Loc} {cells slots : Nat} {Q : State → Prop}
variable {i n0 pc len : Nat} {ad : Nat → Nat} {ls : Array Slot} {zl : zLs} {ins : Instr} {h h' : zH} {st : List Value}
theorem zblind {av : List Value} : FrameBlind (va_Pc av (zPre D cs b L xs A ad h)) := by
  rintro a U g mk ⟨rfl, h1, h2, h3, h4, h5, h6, h7, h8⟩
  exact ⟨rfl, h1, h2, va_K.moved (u := U) (U := U.calling g mk _) (Vm.Alike.refl U.vm) h3, zNw.same (s := U) (U := U.calling g mk _) rfl h4, va_X.moved (u := U) (U := U.calling g mk _) (Vm.Alike.refl U.vm) h5, h6, h7, h8⟩
/-- behind a call -/
theorem zs_ret {j : Nat} {v : Option Value} {a : Array Value} {st0 rest : List Value} (hr : va_Run p l e R s m args below meth c H locs cells slots (zMc j) (500 * zMc j) (F0 m pc ls st0) rest (zQ D cs A ad h.1.length h' j v a) A) (hS : va_S A s.heap H locs)
    (kk : ∀ (ad' : Nat → Nat) (H1 : Heap) (locs1 : List Loc), (∀ k, k < h.1.length → ad' k = ad k) → (zMc j = 0 → ad' = ad) → h'.1.length = h.1.length + zMc j → va_P D vwCl (zWd cs ad' h') H1 → va_D A (zWd cs ad' h') → va_S A s.heap H1 locs1 → W p l e R s m args below meth c H1 locs1 (cells + zMc j) (slots + 500 * zMc j) Q (F0 m (pc + 3) ls (v.toList.map (zv b ad') ++ rest))) : W p l e R s m args below meth c H locs cells slots Q (F0 m pc ls st0) := by
  have bad : (∀ st oc t, zQ D cs A ad h.1.length h' j v a st oc t → False) → W p l e R s m args below meth c H locs cells slots Q (F0 m pc ls st0) := by
    intro hf T hT X
    obtain ⟨v', st₀, t, T', L', h0, X', hL', e1, e2, hq, -⟩ := hr T hT X
    exact (hf _ _ _ hq).elim
  cases v with
  | none => exact va_callv (a := a) hr hS (fun q _ z => z) (fun q z => z) (fun ad' t H1 locs1 ht _ _ hB _ _ hS1 => kk ad' H1 locs1 hB.1 hB.2.1 hB.2.2.1 (by rw [← ht]; exact hB.2.2.2.1) hB.2.2.2.2 hS1)
  | some v =>
    cases v with
    | int x => exact va_calli (a := a) hr hS (fun q _ z => z) (fun q z => z) (fun r ad' t H1 locs1 ht _ hp hB _ _ hS1 => by subst hp; exact kk ad' H1 locs1 hB.1 hB.2.1 hB.2.2.1 (by rw [← ht]; exact hB.2.2.2.1) hB.2.2.2.2 hS1)
    | long x => exact va_calll (a := a) hr hS (fun q _ z => z) (fun q z => z) (fun r ad' t H1 locs1 ht _ hp hB _ _ hS1 => by subst hp; exact kk ad' H1 locs1 hB.1 hB.2.1 hB.2.2.1 (by rw [← ht]; exact hB.2.2.2.1) hB.2.2.2.2 hS1)
    | ref x => exact va_callr (a := a) hr hS (fun q _ z => z) (fun q z => z) (fun ad' ra t H1 locs1 ht _ _ hB _ _ hS1 => by obtain ⟨rfl, hB⟩ := hB; exact kk ad' H1 locs1 hB.1 hB.2.1 hB.2.2.1 (by rw [← ht]; exact hB.2.2.2.1) hB.2.2.2.2 hS1)
    | null => exact bad (fun _ _ _ q => q)
    | float x => exact bad (fun _ _ _ q => q)
    | double x => exact bad (fun _ _ _ q => q)
    | retAddr x => exact bad (fun _ _ _ q => q)
theorem zs_call (ih : zOk l D cs b L xs A n) (Cx : zCx D cs b L xs A i p R s m args meth c) (hd : decode (zB i) pc = .ok (ins, len)) (hP : va_P D vwCl (zWd cs ad h) H) (hD : va_D A (zWd cs ad h)) (hS : va_S A s.heap H locs) (hL : zLV b ad (zML i) zl ls) (hn : n0 ≤ h.1.length) {j : Nat} {as rest : List Value} (hz : zCall i n0 ins len zl st h = some (j, as, rest)) {v : Option Value} (hev : ev L xs n j h.1.length 0 (zArgs as (zML j)) [] h = some (v, h'))
    (kk : ∀ (ad' : Nat → Nat) (H1 : Heap) (locs1 : List Loc), (∀ k, k < h.1.length → ad' k = ad k) → (zMc j = 0 → ad' = ad) → h'.1.length = h.1.length + zMc j → va_P D vwCl (zWd cs ad' h') H1 → va_D A (zWd cs ad' h') → va_S A s.heap H1 locs1 → zLV b ad' (zML i) zl ls → rest.map (zv b ad') = rest.map (zv b ad) → W p l e R s m args below meth c H1 locs1 (h.1.length - n0 + zMc j) (500 * (h.1.length - n0) + 500 * zMc j) Q (F0 m (pc + 3) ls (v.toList.map (zv b ad') ++ rest.map (zv b ad)))) : W p l e R s m args below meth c H locs (h.1.length - n0) (500 * (h.1.length - n0)) Q (F0 m pc ls (st.map (zv b ad))) := by
  obtain ⟨hx, hb, hml, hown, hts, hnw, hini, hK, hX, hbl, hbA, hA, hR1, hR2, hR3, hR4⟩ := id Cx
  unfold zCall at hz
  split at hz
  case h_2 => cases hz
  rename_i j' kd hsite
  obtain ⟨hc, hz2⟩ := zifb hz
  cases hz2
  simp only [Bool.and_eq_true, Nat.ble_eq] at hc
  obtain ⟨⟨hcan, hargs⟩, hrcv⟩ := hc
  simp only [zCan, Bool.and_eq_true, Nat.ble_eq, Bool.or_eq_true, Nat.beq_eq] at hcan
  obtain ⟨⟨⟨⟨⟨c1, c2⟩, c3⟩, c4⟩, c5⟩, c6⟩ := hcan
  have hst : st = st.take (zNA j kd) ++ st.drop (zNA j kd) := (List.take_append_drop _ _).symm
  have haslen : (st.take (zNA j kd)).reverse.length = zNA j kd := by rw [List.length_reverse, List.length_take]; omega
  have c6' : (((st.drop (zNA j kd)).map (zv b ad)).map (fun v : Value => v.category)).sum ≤ 8 := by rw [zv_cats]; exact c6
  -- what the rest of the frame is behind the call
  have kk2 : ∀ (ad' : Nat → Nat) (H1 : Heap) (locs1 : List Loc), (∀ k, k < h.1.length → ad' k = ad k) → (zMc j = 0 → ad' = ad) → h'.1.length = h.1.length + zMc j → va_P D vwCl (zWd cs ad' h') H1 → va_D A (zWd cs ad' h') → va_S A s.heap H1 locs1 → W p l e R s m args below meth c H1 locs1 (h.1.length - n0 + zMc j) (500 * (h.1.length - n0) + 500 * zMc j) Q (F0 m (pc + 3) ls (v.toList.map (zv b ad') ++ (st.drop (zNA j kd)).map (zv b ad))) := by
    intro ad' H1 locs1 q1 q2 q3 q4 q5 q6
    rcases c5 with c5 | c5
    · have e := q2 c5
      subst e
      exact kk _ H1 locs1 q1 q2 q3 q4 q5 q6 hL rfl
    · obtain ⟨w1, w2, w3, w4⟩ := zWf_parts c5
      refine kk ad' H1 locs1 q1 q2 q3 q4 q5 q6 (hL.agree q1 w1) (zvs_agree q1 (List.all_eq_true.mpr fun v hv => List.all_eq_true.mp w2 v (List.mem_of_mem_drop hv)))
  have hf : h.1.length - n0 + zMc j ≤ R.cells ∧ 500 * (h.1.length - n0) + 500 * zMc j ≤ R.slots := by omega
  have hRR : (zRm j).frames + 1 ≤ R.frames ∧ 8 + (zML j + 11) + (zRm j).locals ≤ R.locals := by
    show zFr j + 1 ≤ R.frames ∧ 8 + (zML j + 11) + zLo j ≤ R.locals
    omega
  have hCF : CallFix p m c (zB i) (zML i) s args zG (zCn (zC i)) := ⟨hx, hb, hml, hown, hts⟩
  have hstart : ∀ U : State, U.heap = H → s.WarmedH U.vm → va_Pc ((st.take (zNA j kd)).reverse.map (zv b ad)) (zPre D cs b L xs A ad h) ((st.take (zNA j kd)).reverse.map (zv b ad)).toArray U := by
    intro U hU hW
    have hbH : H[b]? = s.heap[b]? := hS.2.1 b hbl hbA
    have hbH2 : b < H.size := Nat.lt_of_lt_of_le hbl hS.1
    exact ⟨rfl, by rw [hU]; exact hP, hD, va_K.moved hW.alike hK, hnw.warm hW, (va_X.moved hW.alike (hX.kept (H1 := U.heap) (by rw [hU]; exact hbH))), by rw [hU]; exact hbH2, hbA, fun q hq => hA q (Nat.le_trans hS.1 (by rw [hU] at hq; exact hq))⟩
  have hM := fun hj => zMet ih (ad := ad) hj hev hargs
  have dd : j < 168 → ((zY j).cls ≠ "java/lang/invoke/MethodHandle" ∧ (zY j).cls ≠ "java/lang/invoke/VarHandle" ∧ (parseMethodDescriptor (zY j).desc).map (fun d => d.parameters.length) = some (zMD j).2.2.2.2.2) := by
    intro hj
    have hjr : j ∈ List.range 168 := List.mem_range.mpr hj
    have d3 := zD3 j hjr
    simp only [Bool.and_eq_true, Bool.not_eq_true', beq_eq_false_iff_ne] at d3
    exact ⟨d3.1, d3.2, eq_of_beq (zD4 j hjr)⟩
  have di : j < 168 → (Cond.initialized (zY j).cls).before args s = true := fun hj => hts _ (zw_in (zD1 j (List.mem_range.mpr hj)))
  -- the receiver, where there is one
  have rcv : kd ≠ 0 → zC j < 10 → ∃ k as', (st.take (zNA j kd)).reverse = .ref k :: as' ∧ (∃ cellB : Cell, H[ad k]? = some cellB ∧ cellB.vm.isStatics = false ∧ s.vm.findClass (zCn (zC j)) = some cellB.cls) := by
    intro hk hc10
    have h1 : zRcv j h (st.take (zNA j kd)).reverse = true := by
      simp only [Bool.or_eq_true, Nat.beq_eq] at hrcv
      rcases hrcv with q | q
      · exact absurd q hk
      · exact q
    unfold zRcv at h1
    split at h1
    · rename_i k as' has
      split at h1
      · rename_i t nn hk1
        have ht : t = zC j := by simpa [Nat.beq_eq] using h1
        subst ht
        refine ⟨k, as', has, ?_⟩
        have he : (zWd cs ad h)[k]? = some (ad k, .inr (zC j, (List.range nn).map (fun f => zVal ad h (zC j) k f))) := by
          rw [zWd_at hk1]
          unfold zEnt
          rw [show Nat.blt (zC j, nn).1 10 = true by simpa [Nat.blt_eq] using hc10]
          rfl
        exact va_recv hK hP (zVw (zC j) hc10) he
      · cases h1
    · cases h1
  have stk : ∀ {k : Nat} {as' : List Value}, (st.take (zNA j kd)).reverse = .ref k :: as' → st.map (zv b ad) = (as'.map (zv b ad)).reverse ++ .ref (ad k) :: (st.drop (zNA j kd)).map (zv b ad) := by
    intro k as' h1
    have h2 : st.take (zNA j kd) = as'.reverse ++ [.ref k] := by
      have := congrArg List.reverse h1
      simpa using this
    conv => lhs; rw [hst, h2]
    simp [zv]
  unfold zSite at hsite
  split at hsite
  · rename_i idx
    obtain ⟨q, hq1, hq2⟩ := Option.bind_eq_some_iff.mp hsite
    obtain ⟨q3, q4⟩ := zifb hq2
    cases q4
    obtain ⟨j, kind, pp⟩ := q
    have hMs := zMS_ok _ (zlook hq1)
    have hk2 : kind < 2 := by simpa [Nat.blt_eq] using q3
    have hc10 := zMSc _ (zlook hq1) (by show kind = 0 ∨ kind = 1 ∨ kind = 4 ∨ kind = 5; omega)
    obtain ⟨k, as', has, hcell⟩ := rcv (by decide) hc10
    have hnas : (as'.map (zv b ad)).length = (zMD j).2.2.2.2.2 := by
      rw [has] at haslen
      have : zNA j 1 = (zMD j).2.2.2.2.2 + 1 := rfl
      rw [List.length_map]
      simp at haslen
      omega
    have hst2 := stk has
    rw [has] at hM hstart
    match kind, hMs, hk2 with
    | 0, hMs, _ =>
      simp only [zMok, Bool.and_eq_true, Nat.blt_eq] at hMs
      obtain ⟨⟨⟨hj, m1⟩, m2⟩, m3⟩ := hMs
      rw [← zD5 j (List.mem_range.mpr hj)] at hcell
      rw [hst2]
      refine zs_ret (va_runV (C := (zY j).cls) (b := ad k) (As := as'.map (zv b ad)) (rest := (st.drop (zNA j 1)).map (zv b ad)) hCF (hM hj) ⟨callB_of _ hts (zGood hj) rfl rfl rfl (di hj) (hts _ (zw_in m1)) (dd hj) hRR, hts _ (zw_in m2), hts _ (zw_in m3)⟩ ⟨zblind, hcell, hstart⟩ rfl hnas hL.2.1 rfl (lv_room c6') hd hf) hS kk2
    | 1, hMs, _ =>
      simp only [zMok, Bool.and_eq_true, Nat.blt_eq] at hMs
      obtain ⟨⟨⟨hj, m1⟩, m2⟩, m3⟩ := hMs
      rw [← zD5 j (List.mem_range.mpr hj)] at hcell
      rw [hst2]
      refine zs_ret (va_runVN (C := (zY j).cls) (b := ad k) (As := as'.map (zv b ad)) (rest := (st.drop (zNA j 1)).map (zv b ad)) hCF (hM hj) ⟨va_cnB _ hts (zGood hj) rfl rfl rfl (hnw.2.1 _ _ _ _ (zwn_in m1)) (di hj) (dd hj) hRR, hts _ (zw_in m2), hts _ (zw_in m3)⟩ ⟨zblind, hcell, hstart⟩ rfl hnas hL.2.1 rfl (lv_room c6') hd hf) hS kk2
  · rename_i idx
    obtain ⟨q, hq1, hq2⟩ := Option.bind_eq_some_iff.mp hsite
    obtain ⟨q3, q4⟩ := zifb hq2
    cases q4
    obtain ⟨j, kind, pp⟩ := q
    have hMs := zMS_ok _ (zlook hq1)
    have hk2 : kind = 2 := by simpa [Nat.beq_eq] using q3
    subst hk2
    simp only [zMok, Bool.and_eq_true, Nat.blt_eq] at hMs
    obtain ⟨⟨hj, m1⟩, m2⟩ := hMs
    have hnas : ((st.take (zNA j 0)).reverse.map (zv b ad)).length = (zMD j).2.2.2.2.2 := by
      rw [List.length_map, haslen]
      rfl
    have hst2 : st.map (zv b ad) = ((st.take (zNA j 0)).reverse.map (zv b ad)).reverse ++ (st.drop (zNA j 0)).map (zv b ad) := by
      rw [← List.map_reverse, List.reverse_reverse, ← List.map_append, List.take_append_drop]
    rw [hst2]
    refine zs_ret (va_runS (As := (st.take (zNA j 0)).reverse.map (zv b ad)) (rest := (st.drop (zNA j 0)).map (zv b ad)) hCF (hM hj) ⟨callB_of _ hts (zGood hj) rfl rfl rfl (di hj) (hts _ (zw_in m1)) (dd hj) hRR, hts _ (zw_in m2)⟩ ⟨zblind, hstart⟩ rfl hnas hL.2.1 rfl (lv_room c6') hd hf) hS kk2
  · rename_i idx
    obtain ⟨q, hq1, hq2⟩ := Option.bind_eq_some_iff.mp hsite
    obtain ⟨q3, q4⟩ := zifb hq2
    cases q4
    obtain ⟨j, kind, pp⟩ := q
    have hMs := zMS_ok _ (zlook hq1)
    have hk2 : kind = 4 ∨ kind = 5 := by simpa [Nat.beq_eq] using q3
    have hc10 := zMSc _ (zlook hq1) (by show kind = 0 ∨ kind = 1 ∨ kind = 4 ∨ kind = 5; omega)
    obtain ⟨k, as', has, hcell⟩ := rcv (by decide) hc10
    have hnas : (as'.map (zv b ad)).length = (zMD j).2.2.2.2.2 := by
      rw [has] at haslen
      have : zNA j 2 = (zMD j).2.2.2.2.2 + 1 := rfl
      rw [List.length_map]
      simp at haslen
      omega
    have hst2 := stk has
    rw [has] at hM hstart
    rcases hk2 with rfl | rfl
    · simp only [zMok, Bool.and_eq_true, Nat.blt_eq, decide_eq_true_eq] at hMs
      obtain ⟨⟨⟨⟨hj, m1⟩, m2⟩, m3⟩, m4⟩ := hMs
      rw [hst2]
      have hM2 := hM hj
      have hG2 := zGood hj
      rw [m4] at hM2 hG2
      refine zs_ret (va_runI (b := ad k) (As := as'.map (zv b ad)) (rest := (st.drop (zNA j 2)).map (zv b ad)) hCF hM2 ⟨callB_of _ hts hG2 rfl rfl rfl (di hj) (hts _ (zw_in m1)) (dd hj) hRR, m3, hts _ (zw_in m2)⟩ ⟨zblind, hstart⟩ rfl hnas hL.2.1 rfl (lv_room c6') hd hf) hS kk2
    · simp only [zMok, Bool.and_eq_true, Nat.blt_eq, decide_eq_true_eq] at hMs
      obtain ⟨⟨⟨⟨hj, m1⟩, m2⟩, m3⟩, m4⟩ := hMs
      rw [hst2]
      have hM2 := hM hj
      have hG2 := zGood hj
      rw [m4] at hM2 hG2
      refine zs_ret (va_runIN (b := ad k) (As := as'.map (zv b ad)) (rest := (st.drop (zNA j 2)).map (zv b ad)) hCF hM2 ⟨va_cnB _ hts hG2 rfl rfl rfl (hnw.2.1 _ _ _ _ (zwn_in m1)) (di hj) (dd hj) hRR, m3, hts _ (zw_in m2)⟩ ⟨zblind, hstart⟩ rfl hnas hL.2.1 rfl (lv_room c6') hd hf) hS kk2
  · cases hsite
end ZC
end
section
/-! The soundness theorem. -/
theorem zAl_len {i n0 len : Nat} {ins : Instr} {zl : zLs} {st st' : List Value} {h h' : zH} (hz : zAl i n0 ins len zl st h = some (st', h')) : h'.1.length = h.1.length + 1 := by
  have ln : ∀ t n, (zNew h t n).1.length = h.1.length + 1 := fun t n => by simp [zNew]
  have hq := zAl_eq hz
  clear hz
  obtain ⟨hw, hz⟩ := hq
  unfold zAlI at hz
  split at hz
  · split at hz
    · cases hz; exact ln _ _
    · cases hz
  · obtain ⟨-, h4⟩ := zifb hz
    cases h4; exact ln _ _
  · obtain ⟨-, h4⟩ := zifb hz
    cases h4; exact ln _ _
  · obtain ⟨-, h4⟩ := zifc hz
    split at h4
    · cases h4; exact ln _ _
    · cases h4; exact ln _ _
    · cases h4
  · cases hz
theorem zStep_out {i n0 L : Nat} {xs : Nat → Int32} {ins : Instr} {len pc : Nat} {zl : zLs} {st : List Value} {h : zH} {o : Option Value ⊕ (Nat × List Value × List Value)} (hz : zStep i n0 L xs ins len pc zl st h = some (.inr o)) : (∃ v, o = .inl v ∧ zRt i n0 h.1.length ins len st = some v) ∨ (∃ q, o = .inr q ∧ zCall i n0 ins len zl st h = some q) := by
  unfold zStep at hz
  split at hz
  · cases hz
  split at hz
  · obtain ⟨_, _, q⟩ := Option.map_eq_some_iff.mp hz
    cases q
  split at hz
  · obtain ⟨_, _, q⟩ := Option.map_eq_some_iff.mp hz
    cases q
  · cases hz
  split at hz
  · split at hz
    · cases hz
    · cases hz
  · cases hz
  · cases hz
  · cases hz
  · cases hz
  split at hz
  · cases hz
  split at hz
  · cases hz
  split at hz
  · cases hz
  split at hz
  · cases hz
  split at hz
  · rename_i v hc
    cases hz
    exact Or.inl ⟨v, rfl, hc⟩
  split at hz
  · rename_i q hc
    cases hz
    exact Or.inr ⟨q, rfl, hc⟩
  · cases hz
section ZZ
variable {l : Launch} {D : va_G} {cs : zCs} {b L : Nat} {xs : Nat → Int32} {A : Nat → Prop}
theorem zSound : ∀ n : Nat, zOk l D cs b L xs A n
  | 0 => fun p e R s m args below meth c i n0 pc zl st h r h' ad0 ad H locs ls Q hev => by
    unfold ev at hev
    cases hev
  | n + 1 => fun p e R s m args below meth c i n0 pc zl st h r h' ad0 ad H locs ls Q hev Cx hn hm ha0 ha1 hP hD hS hL hR => by
    have ih := zSound n
    obtain ⟨hx, hb, hml, hown, hts, hnw, hini, hK, hX, hbl, hbA, hA, hR1, hR2, hR3, hR4⟩ := id Cx
    unfold ev at hev
    split at hev
    case h_2 => cases hev
    rename_i ins len hd
    split at hev
    case h_4 => cases hev
    · -- a step within the frame
      rename_i pc' zl' st' h2 hz
      unfold zStep at hz
      split at hz
      · rename_i v hc
        cases hz
        exact zs_con (b := b) (ad := ad) hx hb hown hts hd hc (ih p e R s m args below meth c i n0 (pc + len) zl (v :: st) h r h' ad0 ad H locs ls Q hev Cx hn hm ha0 ha1 hP hD hS hL hR)
      split at hz
      · rename_i k kd hc
        obtain ⟨v, hg, hz2⟩ := Option.map_eq_some_iff.mp hz
        cases hz2
        exact zs_ld hx hb hd hc hg hL (ih p e R s m args below meth c i n0 (pc + len) zl (v :: st) h r h' ad0 ad H locs ls Q hev Cx hn hm ha0 ha1 hP hD hS hL hR)
      split at hz
      · rename_i k kd v st2 hc
        obtain ⟨zl2, hg, hz2⟩ := Option.map_eq_some_iff.mp hz
        cases hz2
        exact zs_st hx hb hd hc hg hL (fun ls' hL' => ih p e R s m args below meth c i n0 (pc + len) _ _ h r h' ad0 ad H locs ls' Q hev Cx hn hm ha0 ha1 hP hD hS hL' hR)
      · cases hz
      split at hz
      · split at hz
        · rename_i hk
          cases hz
          exact zs_iinc hx hb hd hk hL (fun ls' hL' => ih p e R s m args below meth c i n0 (pc + 3) _ _ h r h' ad0 ad H locs ls' Q hev Cx hn hm ha0 ha1 hP hD hS hL' hR)
        · cases hz
      · cases hz
        exact lv_dup hx hb hd rfl (ih p e R s m args below meth c i n0 (pc + 1) _ _ h r h' ad0 ad H locs ls Q hev Cx hn hm ha0 ha1 hP hD hS hL hR)
      · cases hz
        exact lv_dup hx hb hd rfl (ih p e R s m args below meth c i n0 (pc + 1) _ _ h r h' ad0 ad H locs ls Q hev Cx hn hm ha0 ha1 hP hD hS hL hR)
      · cases hz
        exact lv_dup2_11 hx hb hd rfl rfl (ih p e R s m args below meth c i n0 (pc + 1) _ _ h r h' ad0 ad H locs ls Q hev Cx hn hm ha0 ha1 hP hD hS hL hR)
      · cases hz
        exact lv_pop hx hb hd rfl (ih p e R s m args below meth c i n0 (pc + 1) _ _ h r h' ad0 ad H locs ls Q hev Cx hn hm ha0 ha1 hP hD hS hL hR)
      split at hz
      · rename_i st2 hc
        cases hz
        exact zs_op hx hb hd hc (ih p e R s m args below meth c i n0 (pc + 1) _ _ h r h' ad0 ad H locs ls Q hev Cx hn hm ha0 ha1 hP hD hS hL hR)
      split at hz
      · rename_i t st2 hc
        cases hz
        exact zs_br hx hb hd hc (ih p e R s m args below meth c i n0 _ _ _ h r h' ad0 ad H locs ls Q hev Cx hn hm ha0 ha1 hP hD hS hL hR)
      split at hz
      · rename_i st2 h3 hc
        cases hz
        have hlay := zMem_lay hc
        refine zs_mem Cx hd hP hD hS hL.2.1 (by omega) (by omega) hc (fun H1 locs1 p1 d1 s1 => ?_)
        have k := ih p e R s m args below meth c i n0 (pc + len) _ _ h2 r h' ad0 ad H1 locs1 ls Q hev Cx (by rw [hlay]; exact hn) (by rw [hlay]; exact hm) ha0 ha1 p1 d1 s1 hL hR
        rw [hlay] at k
        exact k
      split at hz
      · rename_i st2 h3 hc
        cases hz
        obtain ⟨hw, -⟩ := zAl_eq hc
        simp only [Bool.and_eq_true, Nat.blt_eq] at hw
        have hl3 : h2.1.length = h.1.length + 1 := zAl_len hc
        refine zs_al Cx hd hP hD hS hL hn hc (fun ad' H1 ag p1 d1 s1 hL1 => ?_)
        exact ih p e R s m args below meth c i n0 (pc + len) _ _ h2 r h' ad0 ad' H1 locs ls Q hev Cx (by omega) (by omega) (fun k hk => (ag k (by omega)).trans (ha0 k hk)) (fun hm0 => by omega) p1 d1 s1 hL1 hR
      split at hz
      · cases hz
      split at hz
      · cases hz
      · cases hz
    · -- the return
      rename_i v hz
      cases hev
      rcases zStep_out hz with ⟨v', e1, hrt⟩ | ⟨q, e1, -⟩
      · cases e1
        exact hR pc ls H locs ad ins len st hd hrt ha0 ha1 hn hm hP hD hS
      · cases e1
    · -- a call
      rename_i j as rest hz
      rcases zStep_out hz with ⟨v', e1, -⟩ | ⟨q, e1, hc⟩
      · cases e1
      cases e1
      split at hev
      case h_2 => cases hev
      rename_i v h2 hev2
      refine zs_call ih Cx hd hP hD hS hL hn hc hev2 (fun ad' H1 locs1 ag ag0 hl2 p1 d1 s1 hL1 hrest => ?_)
      have hroom : h.1.length + zMc j ≤ n0 + zMc i := by
        unfold zCall at hc
        split at hc
        · obtain ⟨hcc, hz2⟩ := zifb hc
          cases hz2
          simp only [zCan, Bool.and_eq_true, Nat.ble_eq] at hcc
          exact hcc.1.1.1.1.1.1.2
        · cases hc
      have k := ih p e R s m args below meth c i n0 (pc + 3) zl (v.toList ++ rest) h2 r h' ad0 ad' H1 locs1 ls Q hev Cx (by omega) (by omega) (fun k hk => (ag k (by omega)).trans (ha0 k hk)) (fun hm0 => by rw [ag0 (by omega)]; exact ha1 hm0) p1 d1 s1 hL1 hR
      rw [List.map_append, hrest, show h2.1.length - n0 = h.1.length - n0 + zMc j by omega, Nat.mul_add] at k
      exact k
end ZZ
end
section
def R_law : String := "BogTownLaw"
def lw_P (b : Addr) (xs : List Int32) (args : Array Value) (s : State) : Prop := args = #[.ref b] ∧ s.IntsAt b xs ∧ xs.length ≤ 3072 ∧ (Jvm.Cond.and given_1 narrow_1).before args s = true
def lw_Q (_ : Array Value) (s : State) (o : Outcome) (t : State) : Prop := o = .returned (some (.int 1)) ∧ Framed s o t [] 600000 7302250
def lw_Z (below : List Frame) (a : Array Value) (s : State) : State → Prop := fun t => ∃ o, t.status = .running ∧ Ended t below o ∧ lw_Q a s o t
/-- the law's own end, with 1 on the stack, nothing written that was there before, its room as the claim has it -/
theorem lw_ret {p : Program} {l : Launch} {e : Env} {s : State} {m : MethodId} {below : List Frame} {meth : Method} {c : Code} {b : Nat} (hx : p.tables.exec = Jvm.exec) (hb : c.code = code) (hr : meth.sig.returnType = ret) (hlocks : meth.locks = false) {pc : Nat} {H : Heap} {ls : Array Slot} (hdg : decode code pc = .ok (.ireturn, 1)) : W p l e room_1 s m #[Value.ref b] below meth c H [] 600000 7302250 (lw_Z below #[Value.ref b] s) (F0 m pc ls [.int 1]) := by
  intro T hT X
  obtain ⟨fs, hret, hrun, hended, hW, hframe⟩ := X.leave (v := some (.int 1)) (hlocks := hlocks) (fun h => by rw [hr] at h; cases h)
  have hmeth' : T.vm.method? m = some meth := X.method'
  refine ⟨T.setFrames fs, ?_, .returned (some (.int 1)), hrun, hended, rfl, ⟨_, rfl⟩, hW, hframe⟩
  jvm_step X.here [X.here.top, hx, hb, hdg, hmeth', hr, ret, narrow_b1]
  (try refine ⟨rfl, ?_⟩); (try refine ⟨rfl, ?_⟩)
  first | (intro acts; rw [hret _ acts rfl rfl rfl]) | rw [hret _ _ rfl rfl rfl]
  exact Steps.refl _
/-- what holds at the law's entry: the machine, the code, the tables' words (any of lw_tbl by 'hts w (by decide +kernel)'), the script of L ints xs at the cell b, what the Statement gives of the start (any of its parts by flat_of_before) -/
def lw_At (p : Program) (s : State) (m : MethodId) (meth : Method) (c : Code) (b L : Nat) (xs : Nat → Int32) : Prop :=
  p.tables.exec = Jvm.exec ∧ c.code = code ∧ meth.sig.returnType = ret ∧ c.maxLocals = 4 ∧ s.vm.findClass R_law = some m.cls ∧ (∀ w ∈ lw_tbl, w.before #[Value.ref b] s = true) ∧ va_X b L xs s s.heap ∧ b < s.heap.size ∧ meth.locks = false ∧ (Jvm.Cond.and given_1 narrow_1).before #[Value.ref b] s = true
/-! The law's start: from ev of the law to the claim's walk. -/
def zT0 : zH := ([], [], fun _ _ => 0, fun _ => 0)
theorem zKnown {s : State} {args : Array Value} (hts : ∀ w ∈ zG, w.before args s = true) (hin : ∀ k ∈ List.range 10, ∃ q, zw q (.instantiable (zCn k) (zNF k)) = true) : ∃ D : va_G, ∀ (k : Nat) (q : vw_C), vwCl[k]? = some q → u_Kn s q.1 q.2.1 q.2.2 (D.1 k) (D.2 k) := by
  have h : ∀ k, ∃ (cC : ClassId) (iS : Nat → Nat), k < 10 → u_Kn s (zCn k) (zTT k) (zNF k) cC iS := by
    intro k
    by_cases hk : k < 10
    · obtain ⟨q, hq⟩ := hin k (List.mem_range.mpr hk)
      obtain ⟨cC, iS, hK⟩ := u_known (C := zCn k) (T := zTT k) (N := zNF k) (n := zNF k) hts (zCl_ok k (List.mem_range.mpr hk)) (hts _ (zw_in hq))
      exact ⟨cC, iS, fun _ => hK⟩
    · exact ⟨0, fun _ => 0, fun q => absurd q hk⟩
  refine ⟨(fun k => Classical.choose (h k), fun k => Classical.choose (Classical.choose_spec (h k))), ?_⟩
  intro k q hq
  have hk : k < 10 := (List.getElem?_eq_some_iff.mp hq).1
  have h1 := Classical.choose_spec (Classical.choose_spec (h k)) hk
  rw [zVw k hk] at hq
  cases hq
  exact h1
theorem zInst : ∀ k ∈ List.range 10, ((List.range lw_tbl.length).any (fun q => zw q (.instantiable (zCn k) (zNF k)))) = true := by decide +kernel
theorem zInst2 : ∀ k ∈ List.range 10, ∃ q, zw q (.instantiable (zCn k) (zNF k)) = true := by
  intro k hk
  obtain ⟨q, -, hq⟩ := List.any_eq_true.mp (zInst k hk)
  exact ⟨q, hq⟩
theorem zArr {s : State} {args : Array Value} {ty : FieldType} (h : (Cond.arrayClass ty).before args s = true) (hp : ∀ cA, s.vm.findClass ("[" ++ ty.toString) = some cA → va_RA s cA ty) : ∃ cA, ArrOfT s cA ty ∧ va_RA s cA ty := by
  obtain ⟨cA, kA, comp, h1, h2, h3⟩ := Cond.arrayClass_spec h
  exact ⟨cA, fun n z => ⟨fun k q => (by cases q), kA, h2, comp, h3⟩, hp cA h1⟩
theorem zArrO {s : State} {C : String} (h : va_AO C s) : ∃ cA, ArrOfT s cA (.object C) ∧ va_RA s cA (.object C) := by
  obtain ⟨comp, c, k, h1, -, h3, h4, h5⟩ := Cond.arrayOver_spec h
  exact ⟨c, fun n z => ⟨fun _ q => (by cases q), k, h3, comp, h4⟩, k, comp, h3, h4, h1, h5⟩
set_option maxHeartbeats 4000000 in
theorem zWhole {p : Program} {e : Env} {s : State} {m : MethodId} {below : List Frame} {meth : Method} {c : Code} (l : Launch) {b L : Nat} {xs : Nat → Int32} (C0 : lw_At p s m meth c b L xs) (hev : ∃ n h', ev L xs n zLaw 0 0 (zArgs [.null] 4) [] zT0 = some (some (.int 1), h')) : W p l e room_1 s m #[Value.ref b] below meth c s.heap [] 0 0 (lw_Z below #[Value.ref b] s) (entryFrame m ([Value.ref b] : List Value).toArray 4) := by
  obtain ⟨hx, hb, hr, hml, hown, hts0, hX, hbl, hlocks, hgv⟩ := id C0
  obtain ⟨n, h', hev⟩ := hev
  have hts : ∀ w ∈ zG, w.before #[Value.ref b] s = true := fun w hw => hts0 w (zG_in hw)
  have hAO1 : va_AO "BogTown$House" s := va_AO.of (hts0 _ (zwn_in zAr_ok.2.2.1))
  have hAO2 : va_AO "BogTown$Sheet" s := va_AO.of (hts0 _ (zwn_in zAr_ok.2.2.2))
  have hnw : zNw s := ⟨fun a i b n d h hm => va_Nw.of rfl (hts0 _ hm), fun a i x h hm => va_Nw.of rfl (hts0 _ hm), hAO1, hAO2⟩
  obtain ⟨D, hKc⟩ := zKnown hts zInst2
  obtain ⟨cI, a1, a2⟩ := zArr (hts _ (zw_in zAr_ok.1)) (fun cA q => q)
  obtain ⟨cZ, b1, b2⟩ := zArr (hts _ (zw_in zAr_ok.2.1)) (fun cA q => q)
  obtain ⟨cH, c1, c2⟩ := zArrO hAO1
  obtain ⟨cS, d1, d2⟩ := zArrO hAO2
  have hK : va_K D vwCl (zTys (cI, cZ, cH, cS)) s := by
    refine ⟨hKc, fun k q hq => ?_⟩
    match k, hq with
    | 0, hq => cases hq; exact ⟨a1, a2⟩
    | 1, hq => cases hq; exact ⟨b1, b2⟩
    | 2, hq => cases hq; exact ⟨c1, c2⟩
    | 3, hq => cases hq; exact ⟨d1, d2⟩
    | k + 4, hq => simp [zTys] at hq
  have hA : ∀ q : Nat, s.heap.size ≤ q → (fun q : Nat => s.heap.size ≤ q) q := fun _ h => h
  have hbA : ¬ (fun q : Nat => s.heap.size ≤ q) b := Nat.not_le.mpr hbl
  have Cx : zCx D (cI, cZ, cH, cS) b L xs (fun q : Nat => s.heap.size ≤ q) zLaw p room_1 s m #[Value.ref b] meth c := ⟨hx, hb, hml, hown, hts, hnw, fun q => absurd q (by decide), hK, hX, hbl, hbA, hA, by decide, by decide, by decide, by decide⟩
  have hl := zArgs_LV b (fun _ => 0) [.null] 4 (by decide)
  have hP : va_P D vwCl (zWd (cI, cZ, cH, cS) (fun _ => 0) zT0) s.heap := fun k q h => by simp [zWd, zT0] at h
  have hD : va_D (fun q : Nat => s.heap.size ≤ q) (zWd (cI, cZ, cH, cS) (fun _ => 0) zT0) := ⟨fun i j p q h => by simp [zWd, zT0] at h, fun k q h => by simp [zWd, zT0] at h⟩
  have k := zSound (l := l) n p e room_1 s m #[Value.ref b] below meth c zLaw 0 0 (zArgs [.null] 4) [] zT0 (some (.int 1)) h' (fun _ => 0) (fun _ => 0) s.heap [] _ (lw_Z below #[Value.ref b] s) hev Cx (Nat.le_refl _) (Nat.zero_le _) (fun _ _ => rfl) (fun _ => rfl) hP hD va_S.rf hl ?_
  · rw [lg_entry_eq]
    exact k
  · intro pc' ls' H' locs' ad' ins len st' hd hrt _ _ _ hm hP' hD' hS'
    have hst : ins = .ireturn ∧ len = 1 ∧ st' = [.int 1] := by
      unfold zRt at hrt
      obtain ⟨-, hrt⟩ := zifc hrt
      split at hrt
      · cases hrt; exact ⟨rfl, rfl, rfl⟩
      · obtain ⟨-, q⟩ := zifb hrt
        cases q; exact ⟨rfl, rfl, rfl⟩
      · cases hrt
      · cases hrt
      · cases hrt
      · cases hrt
    obtain ⟨rfl, rfl, rfl⟩ := hst
    have hm2 : h'.1.length ≤ 14000 := by
      have : zMc zLaw = 14000 := by decide
      omega
    refine va_forget (fun q hq => hS'.2.2 q hq) ?_
    refine W.widen (k := 600000) (n := 7302250) (by omega) (by omega) ?_
    exact lw_ret hx hb hr hlocks hd
end
section
/-! The machine without fuel: go. -/
theorem ev_mono {L : Nat} {xs : Nat → Int32} : ∀ (n i n0 pc : Nat) (zl : zLs) (st : List Value) (h : zH) (r : Option Value × zH), ev L xs n i n0 pc zl st h = some r → ev L xs (n + 1) i n0 pc zl st h = some r
  | 0, i, n0, pc, zl, st, h, r, hev => by
    rw [ev] at hev
    cases hev
  | n + 1, i, n0, pc, zl, st, h, r, hev => by
    rw [ev] at hev
    rw [ev]
    cases hd : decode (zB i) pc with
    | error x => rw [hd] at hev; cases hev
    | ok q =>
      obtain ⟨ins, len⟩ := q
      rw [hd] at hev
      dsimp only at hev ⊢
      cases hz : zStep i n0 L xs ins len pc zl st h with
      | none => rw [hz] at hev; cases hev
      | some o =>
        rw [hz] at hev
        match o, hev with
        | .inl (pc', zl', st', h'), hev => exact ev_mono n i n0 pc' zl' st' h' r hev
        | .inr (.inl v), hev => exact hev
        | .inr (.inr (j, as, rest)), hev =>
          dsimp only at hev ⊢
          cases hc : ev L xs n j h.1.length 0 (zArgs as (zML j)) [] h with
          | none => rw [hc] at hev; cases hev
          | some q =>
            rw [hc] at hev
            rw [ev_mono n _ _ _ _ _ _ _ hc]
            exact ev_mono n _ _ _ _ _ _ _ hev
theorem ev_le {L : Nat} {xs : Nat → Int32} {n k i n0 pc : Nat} {zl : zLs} {st : List Value} {h : zH} {r : Option Value × zH} (hev : ev L xs n i n0 pc zl st h = some r) : ev L xs (n + k) i n0 pc zl st h = some r := by
  induction k with
  | zero => exact hev
  | succ k ih => exact ev_mono _ _ _ _ _ _ _ _ ih
noncomputable def go (L : Nat) (xs : Nat → Int32) (i n0 pc : Nat) (zl : zLs) (st : List Value) (h : zH) : Option (Option Value × zH) := by
  classical
  exact if H : ∃ r n, ev L xs n i n0 pc zl st h = some r then some (Classical.choose H) else none
theorem go_iff {L : Nat} {xs : Nat → Int32} {i n0 pc : Nat} {zl : zLs} {st : List Value} {h : zH} {r : Option Value × zH} : go L xs i n0 pc zl st h = some r ↔ ∃ n, ev L xs n i n0 pc zl st h = some r := by
  unfold go
  constructor
  · intro h1
    split at h1
    · rename_i H
      cases h1
      exact Classical.choose_spec H
    · cases h1
  · rintro ⟨n, hn⟩
    have H : ∃ r n, ev L xs n i n0 pc zl st h = some r := ⟨r, n, hn⟩
    rw [dif_pos H]
    obtain ⟨k, hk⟩ := Classical.choose_spec H
    have e1 := ev_le (k := k) hn
    have e2 := ev_le (k := n) hk
    rw [Nat.add_comm k n, e1] at e2
    exact e2.symm
theorem go_none {L : Nat} {xs : Nat → Int32} {i n0 pc : Nat} {zl : zLs} {st : List Value} {h : zH} : go L xs i n0 pc zl st h = none ↔ ∀ n, ev L xs n i n0 pc zl st h = none := by
  constructor
  · intro h1 n
    cases hq : ev L xs n i n0 pc zl st h with
    | none => rfl
    | some r => rw [go_iff.mpr ⟨n, hq⟩] at h1; cases h1
  · intro h1
    cases hq : go L xs i n0 pc zl st h with
    | none => rfl
    | some r =>
      obtain ⟨n, hn⟩ := go_iff.mp hq
      rw [h1 n] at hn
      cases hn
theorem go_ext {L : Nat} {xs : Nat → Int32} {i n0 pc : Nat} {zl : zLs} {st : List Value} {h : zH} {o : Option (Option Value × zH)} (hq : ∀ r, (∃ n, ev L xs n i n0 pc zl st h = some r) ↔ o = some r) : go L xs i n0 pc zl st h = o := by
  cases o with
  | some r => exact go_iff.mpr ((hq r).mpr rfl)
  | none =>
    refine go_none.mpr (fun n => ?_)
    cases he : ev L xs n i n0 pc zl st h with
    | none => rfl
    | some r => have := (hq r).mp ⟨n, he⟩; cases this
section G
variable {L : Nat} {xs : Nat → Int32} {i n0 pc len : Nat} {zl zl' : zLs} {st st' : List Value} {h h' : zH} {ins : Instr}
theorem g_nx (hd : decode (zB i) pc = .ok (ins, len)) {pc' : Nat} (hz : zStep i n0 L xs ins len pc zl st h = some (.inl (pc', zl', st', h'))) : go L xs i n0 pc zl st h = go L xs i n0 pc' zl' st' h' := by
  apply go_ext
  intro r
  rw [go_iff]
  constructor
  · rintro ⟨n, hn⟩
    match n, hn with
    | 0, hn => rw [ev] at hn; cases hn
    | n + 1, hn => rw [ev, hd] at hn; dsimp only at hn; rw [hz] at hn; exact ⟨n, hn⟩
  · rintro ⟨n, hn⟩
    refine ⟨n + 1, ?_⟩
    rw [ev, hd]
    dsimp only
    rw [hz]
    exact hn
theorem g_ret (hd : decode (zB i) pc = .ok (ins, len)) {v : Option Value} (hz : zStep i n0 L xs ins len pc zl st h = some (.inr (.inl v))) : go L xs i n0 pc zl st h = some (v, h) := by
  refine go_iff.mpr ⟨1, ?_⟩
  rw [ev, hd]
  dsimp only
  rw [hz]
theorem g_no (hd : decode (zB i) pc = .ok (ins, len)) (hz : zStep i n0 L xs ins len pc zl st h = none) : go L xs i n0 pc zl st h = none := by
  refine go_none.mpr (fun n => ?_)
  match n with
  | 0 => rw [ev]
  | n + 1 => rw [ev, hd]; dsimp only; rw [hz]
theorem g_call (hd : decode (zB i) pc = .ok (ins, len)) {j : Nat} {as rest : List Value} (hz : zStep i n0 L xs ins len pc zl st h = some (.inr (.inr (j, as, rest)))) : go L xs i n0 pc zl st h = (go L xs j h.1.length 0 (zArgs as (zML j)) [] h).bind (fun r => go L xs i n0 (pc + 3) zl (r.1.toList ++ rest) r.2) := by
  apply go_ext
  intro r
  constructor
  · rintro ⟨n, hn⟩
    match n, hn with
    | 0, hn => rw [ev] at hn; cases hn
    | n + 1, hn =>
      rw [ev, hd] at hn
      dsimp only at hn
      rw [hz] at hn
      dsimp only at hn
      split at hn
      · rename_i v h2 hc
        rw [go_iff.mpr ⟨n, hc⟩]
        exact go_iff.mpr ⟨n, hn⟩
      · cases hn
  · intro h1
    obtain ⟨q, h2, h3⟩ := Option.bind_eq_some_iff.mp h1
    obtain ⟨a, ha⟩ := go_iff.mp h2
    obtain ⟨k, hk⟩ := go_iff.mp h3
    refine ⟨a + k + 1, ?_⟩
    rw [ev, hd]
    dsimp only
    rw [hz]
    dsimp only
    rw [ev_le (k := k) ha]
    have := ev_le (k := a) hk
    rw [Nat.add_comm k a] at this
    exact this
theorem zRt_no {n : Nat} (hi : (match ins with
    | .ireturn => true
    | .lreturn => true
    | .areturn => true
    | .return_ => true
    | _ => false) = false) : zRt i n0 n ins len st = none := by
  unfold zRt
  cases (Nat.beq n (n0 + zMc i) || Nat.beq i zLaw)
  · rfl
  · rw [cond_true]
    split <;> first | rfl | cases hi
end G
/-! The cells as they lie once both objects are made. -/
def zL0 : List (Nat × Nat) := [(8, 11), (7, 3), (12, 7), (1, 5), (1, 5), (1, 5), (1, 5), (1, 5), (1, 5), (1, 5), (0, 6), (10, 9), (10, 9), (10, 9), (10, 9), (4, 4), (10, 10), (10, 10), (10, 10), (3, 7), (10, 357), (10, 7), (10, 7), (10, 7), (3, 7), (10, 357), (10, 7), (10, 7), (10, 7), (2, 7), (10, 9), (10, 5), (10, 20), (5, 8), (10, 9), (10, 459), (13, 4), (6, 4), (10, 60), (6, 4), (10, 60), (6, 4), (10, 60), (6, 4), (10, 60), (9, 36), (10, 7), (10, 7), (10, 7), (10, 7), (10, 7), (10, 7), (10, 28), (10, 8), (10, 8), (10, 8), (10, 8), (10, 7), (10, 7), (11, 7), (10, 8), (10, 8), (10, 10), (10, 10), (10, 10), (10, 4), (10, 4), (10, 240), (10, 60)]
def zS0 : List (List (Option Nat)) := [[some 1, some 10, some 15, some 36, some 19, some 24, some 29, some 33, none, none, none], [some 2, none, none], [some 3, some 4, some 5, some 6, some 7, some 8, some 9], [none, none, none, none, none], [none, none, none, none, none], [none, none, none, none, none], [none, none, none, none, none], [none, none, none, none, none], [none, none, none, none, none], [none, none, none, none, none], [some 1, some 11, some 12, some 13, some 14, none], [], [], [], [], [some 16, some 17, some 18, none], [], [], [], [some 1, some 10, some 20, some 21, some 22, some 23, none], [], [], [], [], [some 1, some 10, some 25, some 26, some 27, some 28, none], [], [], [], [], [some 1, some 10, some 24, some 30, some 31, some 32, none], [], [], [], [some 1, some 10, some 24, some 34, some 35, none, none, none], [], [], [some 37, some 39, some 41, some 43], [some 38, none, none, none], [], [some 40, none, none, none], [], [some 42, none, none, none], [], [some 44, none, none, none], [], [none, none, none, some 46, some 47, some 48, some 49, some 50, none, none, none, some 51, some 52, none, some 53, some 54, some 55, some 56, some 57, some 58, some 59, none, none, none, none, some 60, some 61, none, some 62, some 63, some 64, some 65, some 66, some 67, some 68, none], [], [], [], [], [], [], [], [], [], [], [], [], [], [], [], [], [], [], [], [], [], [], []]
def zLRun : Option (List (Nat × Nat) × List (List (Option Nat))) := (ev 0 (fun _ => 0) 2000 zLaw 0 0 (zArgs [.null] 4) [] zT0).map (fun q => (q.2.1, q.2.2.1))
end
section
theorem zLRun_ok : zLRun = some (zL0, zS0) := by decide +kernel
end
section
/-! Steps over the cells as they lie once both objects are made: hp g t. Guards stand as 'if': a guard that fails leaves none. -/
def hp (g : Nat → Nat → Int32) (t : Nat → Int64) : zH := (zL0, zS0, g, t)
def ztag (k : Nat) : Nat := ((zL0[k]?).map (fun q => q.1)).getD 99
def zal (k : Nat) : Nat := match zL0[k]? with
  | some (10, n) => n
  | _ => 0
def zrl (k : Nat) : Nat := match zL0[k]? with
  | some (12, n) => n
  | some (13, n) => n
  | _ => 0
def zrf (k f : Nat) : Option Nat := ((zS0[k]?).bind (fun r => r[f]?)).join
theorem zL0_ok : ∀ k ∈ List.range 69, ztag k < 10 → zL0[k]? = some (ztag k, zNF (ztag k)) := by decide +kernel
theorem zL0_at {k c : Nat} (h : ztag k = c) (hc : c < 10) : zL0[k]? = some (c, zNF c) := by
  subst h
  by_cases hk : k < 69
  · exact zL0_ok k (List.mem_range.mpr hk) hc
  · exfalso
    unfold ztag at hc
    rw [List.getElem?_eq_none (by show 69 ≤ k; omega)] at hc
    exact absurd hc (by decide)
theorem zal_at {k n : Nat} (h : zal k = n) (hn : 0 < n) : zL0[k]? = some (10, n) := by
  unfold zal at h
  split at h
  · rename_i q; rw [q, h]
  · omega
section GS
variable {L : Nat} {xs : Nat → Int32} {i n0 pc len : Nat} {zl zl' : zLs} {st st' : List Value} {h h' : zH} {ins : Instr} {g : Nat → Nat → Int32} {t : Nat → Int64}
theorem st_getf {idx k : Nat} : zStep i n0 L xs (.getfield idx) 3 pc zl (.ref k :: st) h = (zMem i L xs (.getfield idx) 3 (.ref k :: st) h).map (fun q => .inl (pc + 3, zl, q.1, q.2)) := by
  show (match zMem i L xs (.getfield idx) 3 (.ref k :: st) h with
    | some (st', h') => _
    | none => _) = _
  cases zMem i L xs (.getfield idx) 3 (.ref k :: st) h with
  | some q => rfl
  | none =>
    show (match zRt i n0 h.1.length (.getfield idx) 3 (.ref k :: st) with
      | some v => _
      | none => _) = _
    rw [zRt_no rfl]
    rfl
theorem st_putf {idx k : Nat} {v : Value} : zStep i n0 L xs (.putfield idx) 3 pc zl (v :: .ref k :: st) h = (zMem i L xs (.putfield idx) 3 (v :: .ref k :: st) h).map (fun q => .inl (pc + 3, zl, q.1, q.2)) := by
  show (match zMem i L xs (.putfield idx) 3 (v :: .ref k :: st) h with
    | some (st', h') => _
    | none => _) = _
  cases zMem i L xs (.putfield idx) 3 (v :: .ref k :: st) h with
  | some q => rfl
  | none =>
    show (match zRt i n0 h.1.length (.putfield idx) 3 (v :: .ref k :: st) with
      | some v => _
      | none => _) = _
    rw [zRt_no rfl]
    rfl
theorem st_iald {k : Nat} {j : Int32} : zStep i n0 L xs .iaload 1 pc zl (.int j :: .ref k :: st) h = (zMem i L xs .iaload 1 (.int j :: .ref k :: st) h).map (fun q => .inl (pc + 1, zl, q.1, q.2)) := by
  show (match zMem i L xs .iaload 1 (.int j :: .ref k :: st) h with
    | some (st', h') => _
    | none => _) = _
  cases zMem i L xs .iaload 1 (.int j :: .ref k :: st) h with
  | some q => rfl
  | none =>
    show (match zRt i n0 h.1.length .iaload 1 (.int j :: .ref k :: st) with
      | some v => _
      | none => _) = _
    rw [zRt_no rfl]
    rfl
theorem st_sld {j : Int32} : zStep i n0 L xs .iaload 1 pc zl (.int j :: .null :: st) h = (zMem i L xs .iaload 1 (.int j :: .null :: st) h).map (fun q => .inl (pc + 1, zl, q.1, q.2)) := by
  show (match zMem i L xs .iaload 1 (.int j :: .null :: st) h with
    | some (st', h') => _
    | none => _) = _
  cases zMem i L xs .iaload 1 (.int j :: .null :: st) h with
  | some q => rfl
  | none =>
    show (match zRt i n0 h.1.length .iaload 1 (.int j :: .null :: st) with
      | some v => _
      | none => _) = _
    rw [zRt_no rfl]
    rfl
theorem st_bald {k : Nat} {j : Int32} : zStep i n0 L xs .baload 1 pc zl (.int j :: .ref k :: st) h = (zMem i L xs .baload 1 (.int j :: .ref k :: st) h).map (fun q => .inl (pc + 1, zl, q.1, q.2)) := by
  show (match zMem i L xs .baload 1 (.int j :: .ref k :: st) h with
    | some (st', h') => _
    | none => _) = _
  cases zMem i L xs .baload 1 (.int j :: .ref k :: st) h with
  | some q => rfl
  | none =>
    show (match zRt i n0 h.1.length .baload 1 (.int j :: .ref k :: st) with
      | some v => _
      | none => _) = _
    rw [zRt_no rfl]
    rfl
theorem st_aald {k : Nat} {j : Int32} : zStep i n0 L xs .aaload 1 pc zl (.int j :: .ref k :: st) h = (zMem i L xs .aaload 1 (.int j :: .ref k :: st) h).map (fun q => .inl (pc + 1, zl, q.1, q.2)) := by
  show (match zMem i L xs .aaload 1 (.int j :: .ref k :: st) h with
    | some (st', h') => _
    | none => _) = _
  cases zMem i L xs .aaload 1 (.int j :: .ref k :: st) h with
  | some q => rfl
  | none =>
    show (match zRt i n0 h.1.length .aaload 1 (.int j :: .ref k :: st) with
      | some v => _
      | none => _) = _
    rw [zRt_no rfl]
    rfl
theorem st_iast {k : Nat} {j x : Int32} : zStep i n0 L xs .iastore 1 pc zl (.int x :: .int j :: .ref k :: st) h = (zMem i L xs .iastore 1 (.int x :: .int j :: .ref k :: st) h).map (fun q => .inl (pc + 1, zl, q.1, q.2)) := by
  show (match zMem i L xs .iastore 1 (.int x :: .int j :: .ref k :: st) h with
    | some (st', h') => _
    | none => _) = _
  cases zMem i L xs .iastore 1 (.int x :: .int j :: .ref k :: st) h with
  | some q => rfl
  | none =>
    show (match zRt i n0 h.1.length .iastore 1 (.int x :: .int j :: .ref k :: st) with
      | some v => _
      | none => _) = _
    rw [zRt_no rfl]
    rfl
theorem st_bast {k : Nat} {j x : Int32} : zStep i n0 L xs .bastore 1 pc zl (.int x :: .int j :: .ref k :: st) h = (zMem i L xs .bastore 1 (.int x :: .int j :: .ref k :: st) h).map (fun q => .inl (pc + 1, zl, q.1, q.2)) := by
  show (match zMem i L xs .bastore 1 (.int x :: .int j :: .ref k :: st) h with
    | some (st', h') => _
    | none => _) = _
  cases zMem i L xs .bastore 1 (.int x :: .int j :: .ref k :: st) h with
  | some q => rfl
  | none =>
    show (match zRt i n0 h.1.length .bastore 1 (.int x :: .int j :: .ref k :: st) with
      | some v => _
      | none => _) = _
    rw [zRt_no rfl]
    rfl
theorem zm_getf {idx k : Nat} : zMem i L xs (.getfield idx) 3 (.ref k :: st) h = (zFS.lookup (zC i, idx)).bind (fun a => (h.1[k]?).bind (fun b => bif Nat.beq b.1 a.1 && Nat.beq b.2 (zNF a.1) then (zFV h a.1 k a.2.1).map (fun v => (v :: st, h)) else none)) := by
  show (match zFS.lookup (zC i, idx), h.1[k]? with
    | some (c, f, _), some (t, n) => _
    | _, _ => none) = _
  cases zFS.lookup (zC i, idx) with
  | none => rfl
  | some a => cases h.1[k]? <;> rfl
theorem zm_putf {idx k : Nat} {v : Value} : zMem i L xs (.putfield idx) 3 (v :: .ref k :: st) h = (zFS.lookup (zC i, idx)).bind (fun a => (h.1[k]?).bind (fun b => bif Nat.beq b.1 a.1 && Nat.beq b.2 (zNF a.1) && (!(zTT a.1 a.2.1).2.2.2 || (decide ((zY i).name = "<init>") && Nat.beq a.1 (zC i) && Nat.beq a.2.2.1 0)) then (zFP h a.1 k a.2.1 v).map (fun h => (st, h)) else none)) := by
  show (match zFS.lookup (zC i, idx), h.1[k]? with
    | some (c, f, nest, _), some (t, n) => _
    | _, _ => none) = _
  cases zFS.lookup (zC i, idx) with
  | none => rfl
  | some a => cases h.1[k]? <;> rfl
theorem zm_iald {k : Nat} {j : Int32} : zMem i L xs .iaload 1 (.int j :: .ref k :: st) h = (match h.1[k]? with
    | some (10, n) => bif zin j n then some (.int (h.2.2.1 k j.toNatClampNeg) :: st, h) else none
    | _ => none) := rfl
theorem zm_iast {k : Nat} {j x : Int32} : zMem i L xs .iastore 1 (.int x :: .int j :: .ref k :: st) h = (match h.1[k]? with
    | some (10, n) => bif zin j n then some (st, (h.1, h.2.1, zu h.2.2.1 k j.toNatClampNeg x, h.2.2.2)) else none
    | _ => none) := rfl
theorem zm_aald {k : Nat} {j : Int32} : zMem i L xs .aaload 1 (.int j :: .ref k :: st) h = (match h.1[k]? with
    | some (12, n) => bif zin j n then (zsr h k j.toNatClampNeg).map (fun a => (.ref a :: st, h)) else none
    | some (13, n) => bif zin j n then (zsr h k j.toNatClampNeg).map (fun a => (.ref a :: st, h)) else none
    | _ => none) := rfl
theorem zm_sld {j : Int32} : zMem i L xs .iaload 1 (.int j :: .null :: st) h = bif zin j L then some (.int (xs j.toNatClampNeg) :: st, h) else none := rfl
theorem zbeq_ne {k c n : Nat} {q : Nat × Nat} (e2 : zL0[k]? = some q) (hk : ¬ ztag k = c) : Nat.beq q.1 c = false := by
  rw [← Bool.not_eq_true, Nat.beq_eq]
  intro e
  apply hk
  unfold ztag
  rw [e2]
  exact e
theorem g_map {α : Type} {o : Option α} {f : α → Nat × zLs × List Value × zH} (hd : decode (zB i) pc = .ok (ins, len)) (hz : zStep i n0 L xs ins len pc zl st h = o.map (fun q => .inl (f q))) : go L xs i n0 pc zl st h = o.bind (fun q => go L xs i n0 (f q).1 (f q).2.1 (f q).2.2.1 (f q).2.2.2) := by
  cases o with
  | none => exact g_no hd hz
  | some q => exact g_nx hd hz
theorem g_getI {idx c f k : Nat} {q : Nat × Nat} (hd : decode (zB i) pc = .ok (.getfield idx, 3)) (hs : zFS.lookup (zC i, idx) = some (c, f, q)) (ht : zFty (zTy c f) = 0 ∨ zFty (zTy c f) = 1) (hc : c < 10) : go L xs i n0 pc zl (.ref k :: st) (hp g t) = if ztag k = c then go L xs i n0 (pc + 3) zl (.int (g k f) :: st) (hp g t) else none := by
  have hv : zFV (hp g t) c k f = some (.int (g k f)) := by unfold zFV; rcases ht with e | e <;> rw [e] <;> rfl
  refine (g_map hd st_getf).trans ?_
  rw [zm_getf, hs, Option.bind_some]
  by_cases hk : ztag k = c
  · rw [if_pos hk, show (hp g t).1[k]? = some (c, zNF c) from zL0_at hk hc, Option.bind_some]
    dsimp only
    rw [show (Nat.beq c c && Nat.beq (zNF c) (zNF c)) = true by simp [Nat.beq_eq], cond_true, hv]
    rfl
  · rw [if_neg hk]
    cases e2 : (hp g t).1[k]? with
    | none => rfl
    | some b =>
      rw [Option.bind_some]
      dsimp only
      rw [zbeq_ne (n := 0) e2 hk]
      rfl
theorem g_getJ {idx c f k : Nat} {q : Nat × Nat} (hd : decode (zB i) pc = .ok (.getfield idx, 3)) (hs : zFS.lookup (zC i, idx) = some (c, f, q)) (ht : zFty (zTy c f) = 2) (hc : c < 10) : go L xs i n0 pc zl (.ref k :: st) (hp g t) = if ztag k = c then go L xs i n0 (pc + 3) zl (.long (t k) :: st) (hp g t) else none := by
  have hv : zFV (hp g t) c k f = some (.long (t k)) := by unfold zFV; rw [ht]; rfl
  refine (g_map hd st_getf).trans ?_
  rw [zm_getf, hs, Option.bind_some]
  by_cases hk : ztag k = c
  · rw [if_pos hk, show (hp g t).1[k]? = some (c, zNF c) from zL0_at hk hc, Option.bind_some]
    dsimp only
    rw [show (Nat.beq c c && Nat.beq (zNF c) (zNF c)) = true by simp [Nat.beq_eq], cond_true, hv]
    rfl
  · rw [if_neg hk]
    cases e2 : (hp g t).1[k]? with
    | none => rfl
    | some b =>
      rw [Option.bind_some]
      dsimp only
      rw [zbeq_ne (n := 0) e2 hk]
      rfl
theorem g_getR {idx c f k : Nat} {q : Nat × Nat} (hd : decode (zB i) pc = .ok (.getfield idx, 3)) (hs : zFS.lookup (zC i, idx) = some (c, f, q)) (ht : zFty (zTy c f) = 3) (hc : c < 10) : go L xs i n0 pc zl (.ref k :: st) (hp g t) = if ztag k = c then (zrf k f).elim none (fun a => go L xs i n0 (pc + 3) zl (.ref a :: st) (hp g t)) else none := by
  have hv : zFV (hp g t) c k f = (zrf k f).map .ref := by unfold zFV; rw [ht]; rfl
  refine (g_map hd st_getf).trans ?_
  rw [zm_getf, hs, Option.bind_some]
  by_cases hk : ztag k = c
  · rw [if_pos hk, show (hp g t).1[k]? = some (c, zNF c) from zL0_at hk hc, Option.bind_some]
    dsimp only
    rw [show (Nat.beq c c && Nat.beq (zNF c) (zNF c)) = true by simp [Nat.beq_eq], cond_true, hv]
    cases zrf k f <;> rfl
  · rw [if_neg hk]
    cases e2 : (hp g t).1[k]? with
    | none => rfl
    | some b =>
      rw [Option.bind_some]
      dsimp only
      rw [zbeq_ne (n := 0) e2 hk]
      rfl
theorem g_putX {idx c f k : Nat} {v : Value} {nest pp : Nat} (hd : decode (zB i) pc = .ok (.putfield idx, 3)) (hs : zFS.lookup (zC i, idx) = some (c, f, nest, pp)) (hfin : (zTT c f).2.2.2 = false) (hc : c < 10) : go L xs i n0 pc zl (v :: .ref k :: st) (hp g t) = if ztag k = c then (zFP (hp g t) c k f v).bind (fun h => go L xs i n0 (pc + 3) zl st h) else none := by
  refine (g_map hd st_putf).trans ?_
  rw [zm_putf, hs, Option.bind_some]
  by_cases hk : ztag k = c
  · rw [if_pos hk, show (hp g t).1[k]? = some (c, zNF c) from zL0_at hk hc, Option.bind_some]
    dsimp only
    rw [show (Nat.beq c c && Nat.beq (zNF c) (zNF c) && (!(zTT c f).2.2.2 || (decide ((zY i).name = "<init>") && Nat.beq c (zC i) && Nat.beq nest 0))) = true by simp [Nat.beq_eq, hfin], cond_true]
    cases zFP (hp g t) c k f v <;> rfl
  · rw [if_neg hk]
    cases e2 : (hp g t).1[k]? with
    | none => rfl
    | some b =>
      rw [Option.bind_some]
      dsimp only
      rw [zbeq_ne (n := 0) e2 hk]
      rfl
theorem g_putI {idx c f k : Nat} {x : Int32} {nest pp : Nat} (hd : decode (zB i) pc = .ok (.putfield idx, 3)) (hs : zFS.lookup (zC i, idx) = some (c, f, nest, pp)) (hfin : (zTT c f).2.2.2 = false) (hc : c < 10) (ht : zFty (zTy c f) = 0) : go L xs i n0 pc zl (.int x :: .ref k :: st) (hp g t) = if ztag k = c then go L xs i n0 (pc + 3) zl st (hp (zu g k f x) t) else none := by
  rw [g_putX hd hs hfin hc]
  have : zFP (hp g t) c k f (.int x) = some (hp (zu g k f x) t) := by unfold zFP; rw [ht]; rfl
  rw [this]
  rfl
theorem g_putZ {idx c f k : Nat} {x : Int32} {nest pp : Nat} (hd : decode (zB i) pc = .ok (.putfield idx, 3)) (hs : zFS.lookup (zC i, idx) = some (c, f, nest, pp)) (hfin : (zTT c f).2.2.2 = false) (hc : c < 10) (ht : zFty (zTy c f) = 1) : go L xs i n0 pc zl (.int x :: .ref k :: st) (hp g t) = if ztag k = c ∧ (x = 0 ∨ x = 1) then go L xs i n0 (pc + 3) zl st (hp (zu g k f x) t) else none := by
  rw [g_putX hd hs hfin hc]
  have : zFP (hp g t) c k f (.int x) = if x = 0 ∨ x = 1 then some (hp (zu g k f x) t) else none := by
    unfold zFP
    rw [ht]
    show (bif decide (x = 0) || decide (x = 1) then some (hp (zu g k f x) t) else none) = _
    by_cases q : x = 0 ∨ x = 1
    · rw [if_pos q, show (decide (x = 0) || decide (x = 1)) = true by simpa using q]; rfl
    · rw [if_neg q, show (decide (x = 0) || decide (x = 1)) = false by simpa using q]; rfl
  rw [this]
  by_cases hk : ztag k = c <;> by_cases q : x = 0 ∨ x = 1 <;> simp [hk, q]
theorem g_putJ {idx c f k : Nat} {x : Int64} {nest pp : Nat} (hd : decode (zB i) pc = .ok (.putfield idx, 3)) (hs : zFS.lookup (zC i, idx) = some (c, f, nest, pp)) (hfin : (zTT c f).2.2.2 = false) (hc : c < 10) (ht : zFty (zTy c f) = 2) : go L xs i n0 pc zl (.long x :: .ref k :: st) (hp g t) = if ztag k = c then go L xs i n0 (pc + 3) zl st (hp g (zuJ t k x)) else none := by
  rw [g_putX hd hs hfin hc]
  have : zFP (hp g t) c k f (.long x) = some (hp g (zuJ t k x)) := by unfold zFP; rw [ht]; rfl
  rw [this]
  rfl
theorem zin0 (j : Int32) : zin j 0 = false := by
  unfold zin
  rw [Bool.and_eq_false_iff]
  right
  rfl
theorem g_iald {k : Nat} {j : Int32} (hd : decode (zB i) pc = .ok (.iaload, 1)) : go L xs i n0 pc zl (.int j :: .ref k :: st) (hp g t) = if zin j (zal k) = true then go L xs i n0 (pc + 1) zl (.int (g k j.toNatClampNeg) :: st) (hp g t) else none := by
  refine (g_map hd st_iald).trans ?_
  rw [zm_iald]
  unfold zal
  dsimp only [hp]
  split
  · rename_i n e
    by_cases q : zin j n = true
    · rw [if_pos q, q]; rfl
    · rw [if_neg q, (Bool.not_eq_true _).mp q]; rfl
  · rw [zin0]; rfl
theorem g_iast {k : Nat} {j x : Int32} (hd : decode (zB i) pc = .ok (.iastore, 1)) : go L xs i n0 pc zl (.int x :: .int j :: .ref k :: st) (hp g t) = if zin j (zal k) = true then go L xs i n0 (pc + 1) zl st (hp (zu g k j.toNatClampNeg x) t) else none := by
  refine (g_map hd st_iast).trans ?_
  rw [zm_iast]
  unfold zal
  dsimp only [hp]
  split
  · rename_i n e
    by_cases q : zin j n = true
    · rw [if_pos q, q]; rfl
    · rw [if_neg q, (Bool.not_eq_true _).mp q]; rfl
  · rw [zin0]; rfl
theorem g_sld {j : Int32} (hd : decode (zB i) pc = .ok (.iaload, 1)) : go L xs i n0 pc zl (.int j :: .null :: st) h = if zin j L = true then go L xs i n0 (pc + 1) zl (.int (xs j.toNatClampNeg) :: st) h else none := by
  refine (g_map hd st_sld).trans ?_
  rw [zm_sld]
  by_cases q : zin j L = true
  · rw [if_pos q, q]; rfl
  · rw [if_neg q, (Bool.not_eq_true _).mp q]; rfl
theorem g_bald {j : Int32} (hd : decode (zB i) pc = .ok (.baload, 1)) : go L xs i n0 pc zl (.int j :: .ref 59 :: st) (hp g t) = if zin j 7 = true then go L xs i n0 (pc + 1) zl (.int (g 59 j.toNatClampNeg) :: st) (hp g t) else none := by
  refine (g_map hd st_bald).trans ?_
  show Option.bind (bif zin j 7 then _ else _) _ = _
  by_cases q : zin j 7 = true
  · rw [if_pos q, q]; rfl
  · rw [if_neg q, (Bool.not_eq_true _).mp q]; rfl
theorem g_bast {j x : Int32} (hd : decode (zB i) pc = .ok (.bastore, 1)) : go L xs i n0 pc zl (.int x :: .int j :: .ref 59 :: st) (hp g t) = if zin j 7 = true ∧ (x = 0 ∨ x = 1) then go L xs i n0 (pc + 1) zl st (hp (zu g 59 j.toNatClampNeg x) t) else none := by
  refine (g_map hd st_bast).trans ?_
  show Option.bind (bif zin j 7 && (decide (x = 0) || decide (x = 1)) then _ else _) _ = _
  by_cases q : zin j 7 = true ∧ (x = 0 ∨ x = 1)
  · rw [if_pos q, show (zin j 7 && (decide (x = 0) || decide (x = 1))) = true by simpa using q]; rfl
  · rw [if_neg q, show (zin j 7 && (decide (x = 0) || decide (x = 1))) = false by simpa using q]; rfl
theorem g_aald {k : Nat} {j : Int32} (hd : decode (zB i) pc = .ok (.aaload, 1)) : go L xs i n0 pc zl (.int j :: .ref k :: st) (hp g t) = if zin j (zrl k) = true then (zrf k j.toNatClampNeg).elim none (fun a => go L xs i n0 (pc + 1) zl (.ref a :: st) (hp g t)) else none := by
  refine (g_map hd st_aald).trans ?_
  have hr : zsr (zL0, zS0, g, t) k j.toNatClampNeg = zrf k j.toNatClampNeg := rfl
  rw [zm_aald]
  unfold zrl
  dsimp only [hp]
  rw [hr]
  split
  · rename_i n e
    by_cases q : zin j n = true
    · rw [if_pos q, q]; cases zrf k j.toNatClampNeg <;> rfl
    · rw [if_neg q, (Bool.not_eq_true _).mp q]; rfl
  · rename_i n e
    by_cases q : zin j n = true
    · rw [if_pos q, q]; cases zrf k j.toNatClampNeg <;> rfl
    · rw [if_neg q, (Bool.not_eq_true _).mp q]; rfl
  · rw [zin0]; rfl
theorem g_ic {q : Jvm.ClassFile.Cond} {off : Int} {x y : Int32} {a : Nat} (hd : decode (zB i) pc = .ok (.if_icmp q off, 3)) (ht : zTgt pc off = some a) : go L xs i n0 pc zl (.int y :: .int x :: st) h = if zCmp q x y = true then go L xs i n0 a zl st h else go L xs i n0 (pc + 3) zl st h := by
  have hz : zStep i n0 L xs (.if_icmp q off) 3 pc zl (.int y :: .int x :: st) h = some (.inl (bif zCmp q x y then a else pc + 3, zl, st, h)) := by
    show (match zBr pc (.if_icmp q off) 3 (.int y :: .int x :: st) with
      | some (t, st') => _
      | none => _) = _
    have hq : zBr pc (.if_icmp q off) 3 (.int y :: .int x :: st) = some (bif zCmp q x y then a else pc + 3, st) := by
      show Option.map _ (zTgt pc off) = _
      rw [ht]
      rfl
    rw [hq]
  rw [g_nx hd hz]
  cases zCmp q x y <;> rfl
theorem g_if {q : Jvm.ClassFile.Cond} {off : Int} {x : Int32} {a : Nat} (hd : decode (zB i) pc = .ok (.ifCond q off, 3)) (ht : zTgt pc off = some a) : go L xs i n0 pc zl (.int x :: st) h = if zCmp q x 0 = true then go L xs i n0 a zl st h else go L xs i n0 (pc + 3) zl st h := by
  have hz : zStep i n0 L xs (.ifCond q off) 3 pc zl (.int x :: st) h = some (.inl (bif zCmp q x 0 then a else pc + 3, zl, st, h)) := by
    show (match zBr pc (.ifCond q off) 3 (.int x :: st) with
      | some (t, st') => _
      | none => _) = _
    have hq : zBr pc (.ifCond q off) 3 (.int x :: st) = some (bif zCmp q x 0 then a else pc + 3, st) := by
      show Option.map _ (zTgt pc off) = _
      rw [ht]
      rfl
    rw [hq]
  rw [g_nx hd hz]
  cases zCmp q x 0 <;> rfl
theorem g_div {x y : Int32} (hd : decode (zB i) pc = .ok (.idiv, 1)) (hy : ¬ y = 0) : go L xs i n0 pc zl (.int y :: .int x :: st) h = go L xs i n0 (pc + 1) zl (.int (x / y) :: st) h := g_nx hd (by
  have hq : zOp .idiv 1 (.int y :: .int x :: st) = some (.int (x / y) :: st) := by
    show Option.map _ (bif decide (y = 0) then none else some (Value.int (x / y))) = _
    rw [decide_eq_false hy]
    rfl
  show (match zOp .idiv 1 (.int y :: .int x :: st) with
    | some st' => _
    | none => _) = _
  rw [hq])
theorem g_rem {x y : Int32} (hd : decode (zB i) pc = .ok (.irem, 1)) (hy : ¬ y = 0) : go L xs i n0 pc zl (.int y :: .int x :: st) h = go L xs i n0 (pc + 1) zl (.int (x - x / y * y) :: st) h := g_nx hd (by
  have hq : zOp .irem 1 (.int y :: .int x :: st) = some (.int (x - x / y * y) :: st) := by
    show Option.map _ (bif decide (y = 0) then none else some (Value.int (x - x / y * y))) = _
    rw [decide_eq_false hy]
    rfl
  show (match zOp .irem 1 (.int y :: .int x :: st) with
    | some st' => _
    | none => _) = _
  rw [hq])
theorem g_ldiv {x y : Int64} (hd : decode (zB i) pc = .ok (.ldiv, 1)) (hy : ¬ y = 0) : go L xs i n0 pc zl (.long y :: .long x :: st) h = go L xs i n0 (pc + 1) zl (.long (x / y) :: st) h := g_nx hd (by
  have hq : zOp .ldiv 1 (.long y :: .long x :: st) = some (.long (x / y) :: st) := by
    show Option.map _ (bif decide (y = 0) then none else some (Value.long (x / y))) = _
    rw [decide_eq_false hy]
    rfl
  show (match zOp .ldiv 1 (.long y :: .long x :: st) with
    | some st' => _
    | none => _) = _
  rw [hq])
theorem g_lrem {x y : Int64} (hd : decode (zB i) pc = .ok (.lrem, 1)) (hy : ¬ y = 0) : go L xs i n0 pc zl (.long y :: .long x :: st) h = go L xs i n0 (pc + 1) zl (.long (x - x / y * y) :: st) h := g_nx hd (by
  have hq : zOp .lrem 1 (.long y :: .long x :: st) = some (.long (x - x / y * y) :: st) := by
    show Option.map _ (bif decide (y = 0) then none else some (Value.long (x - x / y * y))) = _
    rw [decide_eq_false hy]
    rfl
  show (match zOp .lrem 1 (.long y :: .long x :: st) with
    | some st' => _
    | none => _) = _
  rw [hq])
theorem g_retZ {x : Int32} (hd : decode (zB i) pc = .ok (.ireturn, 1)) (hr : zRet i = some .boolean) (hm : (Nat.beq 69 (n0 + zMc i) || Nat.beq i zLaw) = true) : go L xs i n0 pc zl [.int x] (hp g t) = if x = 0 ∨ x = 1 then some (some (.int x), hp g t) else none := by
  have hz : zStep i n0 L xs .ireturn 1 pc zl [.int x] (hp g t) = (bif decide (x = 0) || decide (x = 1) then some (.inr (.inl (some (.int x)))) else none) := by
    show (match zRt i n0 69 .ireturn 1 [.int x] with
      | some v => _
      | none => _) = _
    have hq : zRt i n0 69 .ireturn 1 [.int x] = bif decide (x = 0) || decide (x = 1) then some (some (.int x)) else none := by
      unfold zRt
      rw [hm, cond_true, hr]
      rfl
    rw [hq]
    cases decide (x = 0) || decide (x = 1) <;> rfl
  by_cases q : x = 0 ∨ x = 1
  · rw [if_pos q]
    refine g_ret hd (hz.trans ?_)
    rw [show (decide (x = 0) || decide (x = 1)) = true by simpa using q]; rfl
  · rw [if_neg q]
    refine g_no hd (hz.trans ?_)
    rw [show (decide (x = 0) || decide (x = 1)) = false by simpa using q]; rfl
theorem g_copy {idx k0 k1 pp jj : Nat} {n dp sp : Int32} (hd : decode (zB i) pc = .ok (.invokestatic idx, 3)) (hs : zMS.lookup (zC i, idx) = some (jj, 7, pp)) (hr : (Nat.ble 1 (zFr i) && Nat.ble 40 (zLo i) && Nat.ble ((st.map (fun v : Value => v.category)).sum) 8) = true) (h0 : 0 < zal k0) (h1 : 0 < zal k1) (hc : ¬ sp < 0 ∧ ¬ dp < 0 ∧ ¬ n < 0 ∧ sp.toNatClampNeg + n.toNatClampNeg ≤ zal k0 ∧ dp.toNatClampNeg + n.toNatClampNeg ≤ zal k1) : go L xs i n0 pc zl (.int n :: .int dp :: .ref k1 :: .int sp :: .ref k0 :: st) (hp g t) = go L xs i n0 (pc + 3) zl st (hp (zcp g k0 k1 sp.toNatClampNeg dp.toNatClampNeg n.toNatClampNeg) t) := by
  refine g_nx hd ?_
  have hm : zMem i L xs (.invokestatic idx) 3 (.int n :: .int dp :: .ref k1 :: .int sp :: .ref k0 :: st) (hp g t) = some (st, hp (zcp g k0 k1 sp.toNatClampNeg dp.toNatClampNeg n.toNatClampNeg) t) := by
    show (match zMS.lookup (zC i, idx), zL0[k0]?, zL0[k1]? with
      | some (_, 7, _), some (10, n0), some (10, n1) => bif Nat.ble 1 (zFr i) && Nat.ble 40 (zLo i) && Nat.ble ((st.map (fun v : Value => v.category)).sum) 8 && !(decide (sp < 0)) && !(decide (dp < 0)) && !(decide (n < 0)) && Nat.ble (sp.toNatClampNeg + n.toNatClampNeg) n0 && Nat.ble (dp.toNatClampNeg + n.toNatClampNeg) n1 then some (st, ((hp g t).1, (hp g t).2.1, zcp (hp g t).2.2.1 k0 k1 sp.toNatClampNeg dp.toNatClampNeg n.toNatClampNeg, (hp g t).2.2.2)) else none
      | _, _, _ => none) = _
    rw [hs, zal_at rfl h0, zal_at rfl h1]
    show (bif _ then _ else none) = _
    rw [hr, decide_eq_false hc.1, decide_eq_false hc.2.1, decide_eq_false hc.2.2.1, Nat.ble_eq.mpr hc.2.2.2.1, Nat.ble_eq.mpr hc.2.2.2.2]
    rfl
  show (match zMem i L xs (.invokestatic idx) 3 (.int n :: .int dp :: .ref k1 :: .int sp :: .ref k0 :: st) (hp g t) with
    | some (st', h') => _
    | none => _) = _
  rw [hm]
theorem zcc_lt {x y : Int32} : (zCmp .lt x y = true) = (x < y) := by simp [zCmp]
theorem zcc_gt {x y : Int32} : (zCmp .gt x y = true) = (y < x) := by simp [zCmp]
theorem zcc_eq {x y : Int32} : (zCmp .eq x y = true) = (x = y) := by simp [zCmp]
theorem zite {α : Type} {c d : Prop} [Decidable c] [Decidable d] {a b : α} (h : c = d) : (if c then a else b) = if d then a else b := by
  subst h
  by_cases q : c <;> simp [q]
theorem zitn {α : Type} {c d : Prop} [Decidable c] [Decidable d] {a b : α} (h : c = ¬ d) : (if c then a else b) = if d then b else a := by
  subst h
  by_cases q : d <;> simp [q]
theorem zcn_ge {x y : Int32} : (zCmp .ge x y = true) = ¬ x < y := by simp [zCmp, Int32.not_lt]
theorem zcn_le {x y : Int32} : (zCmp .le x y = true) = ¬ y < x := by simp [zCmp, Int32.not_lt]
theorem zcn_ne {x y : Int32} : (zCmp .ne x y = true) = ¬ x = y := by simp [zCmp]
theorem g_sw_t {d lo hi : Int} {offs : Array Int} {x : Int32} {off : Int} {a : Nat} (hx : zSw (.tableswitch d lo hi offs) x = some off) (ht : zTgt pc off = some a) (h1 : ¬ len = 1) : zStep i n0 L xs (.tableswitch d lo hi offs) len pc zl (.int x :: st) h = some (.inl (a, zl, st, h)) := by
  have hq : zBr pc (.tableswitch d lo hi offs) len (.int x :: st) = some (a, st) := by
    show (zSw (.tableswitch d lo hi offs) x).bind _ = _
    rw [hx]
    show (zTgt pc off).map _ = _
    rw [ht]
    rfl
  match len, h1, hq with
  | 0, _, hq =>
    show (match zBr pc (.tableswitch d lo hi offs) 0 (.int x :: st) with
      | some (t, st') => _
      | none => _) = _
    rw [hq]
  | n + 2, _, hq =>
    show (match zBr pc (.tableswitch d lo hi offs) (n + 2) (.int x :: st) with
      | some (t, st') => _
      | none => _) = _
    rw [hq]
theorem g_sw_l {d : Int} {ps : Array (Int × Int)} {x : Int32} {off : Int} {a : Nat} (hx : zSw (.lookupswitch d ps) x = some off) (ht : zTgt pc off = some a) (h1 : ¬ len = 1) : zStep i n0 L xs (.lookupswitch d ps) len pc zl (.int x :: st) h = some (.inl (a, zl, st, h)) := by
  have hq : zBr pc (.lookupswitch d ps) len (.int x :: st) = some (a, st) := by
    show (zSw (.lookupswitch d ps) x).bind _ = _
    rw [hx]
    show (zTgt pc off).map _ = _
    rw [ht]
    rfl
  match len, h1, hq with
  | 0, _, hq =>
    show (match zBr pc (.lookupswitch d ps) 0 (.int x :: st) with
      | some (t, st') => _
      | none => _) = _
    rw [hq]
  | n + 2, _, hq =>
    show (match zBr pc (.lookupswitch d ps) (n + 2) (.int x :: st) with
      | some (t, st') => _
      | none => _) = _
    rw [hq]
theorem g_rcv {idx j k : Nat} {as rest : List Value} (hk : ztag k = zC j) (hc : zC j < 10) (h1 : zSite i (.invokevirtual idx) 3 = some (j, 1)) (h2 : (zCan i j n0 (zNA j 1) zl st (hp g t) && Nat.ble (zArgs (st.take (zNA j 1)).reverse 0).length (zML j)) = true) (h3 : (st.take (zNA j 1)).reverse = .ref k :: as) (h4 : st.drop (zNA j 1) = rest) : zStep i n0 L xs (.invokevirtual idx) 3 pc zl st (hp g t) = some (.inr (.inr (j, .ref k :: as, rest))) := by
  have hq : zCall i n0 (.invokevirtual idx) 3 zl st (hp g t) = some (j, .ref k :: as, rest) := by
    unfold zCall
    rw [h1]
    show (bif zCan i j n0 (zNA j 1) zl st (hp g t) && Nat.ble (zArgs (st.take (zNA j 1)).reverse 0).length (zML j) && (Nat.beq 1 0 || zRcv j (hp g t) (st.take (zNA j 1)).reverse) then some (j, (st.take (zNA j 1)).reverse, st.drop (zNA j 1)) else none) = _
    rw [h2, h3, h4]
    have hr : zRcv j (hp g t) (.ref k :: as) = true := by
      show (match zL0[k]? with
        | some (t, _) => Nat.beq t (zC j)
        | none => false) = true
      rw [zL0_at hk hc]
      exact Nat.beq_eq.mpr rfl
    rw [hr]
    rfl
  have hs : zStep i n0 L xs (.invokevirtual idx) 3 pc zl st (hp g t) = (match zRt i n0 69 (.invokevirtual idx) 3 st with
    | some v => some (.inr (.inl v))
    | none => match zCall i n0 (.invokevirtual idx) 3 zl st (hp g t) with
      | some q => some (.inr (.inr q))
      | none => none) := by
    match st with
    | [] => rfl
    | [v] => rfl
    | v :: w :: st => rfl
  rw [hs, zRt_no rfl, hq]
end GS
end
section
theorem zm_2_42 : zMS.lookup (2, 42) = some (901, 7, 544) := by decide +kernel
theorem zm_5_49 : zMS.lookup (5, 49) = some (901, 7, 641) := by decide +kernel
theorem zm_8_254 : zMS.lookup (8, 254) = some (901, 7, 697) := by decide +kernel
theorem zf_0_15 : zFS.lookup (0, 15) = some (0, 2, 0, 169) := by decide +kernel
theorem zf_0_18 : zFS.lookup (0, 18) = some (0, 3, 0, 173) := by decide +kernel
theorem zf_0_21 : zFS.lookup (0, 21) = some (0, 4, 0, 177) := by decide +kernel
theorem zf_0_24 : zFS.lookup (0, 24) = some (0, 0, 0, 165) := by decide +kernel
theorem zf_0_28 : zFS.lookup (0, 28) = some (0, 5, 0, 181) := by decide +kernel
theorem zf_0_42 : zFS.lookup (0, 42) = some (7, 0, 1, 142) := by decide +kernel
theorem zf_0_46 : zFS.lookup (0, 46) = some (1, 1, 1, 119) := by decide +kernel
theorem zf_0_9 : zFS.lookup (0, 9) = some (0, 1, 0, 166) := by decide +kernel
theorem zf_1_15 : zFS.lookup (1, 15) = some (1, 3, 0, 123) := by decide +kernel
theorem zf_1_18 : zFS.lookup (1, 18) = some (1, 0, 0, 113) := by decide +kernel
theorem zf_1_9 : zFS.lookup (1, 9) = some (1, 2, 0, 120) := by decide +kernel
theorem zf_2_15 : zFS.lookup (2, 15) = some (2, 4, 0, 256) := by decide +kernel
theorem zf_2_18 : zFS.lookup (2, 18) = some (2, 5, 0, 257) := by decide +kernel
theorem zf_2_21 : zFS.lookup (2, 21) = some (2, 0, 0, 252) := by decide +kernel
theorem zf_2_25 : zFS.lookup (2, 25) = some (2, 1, 0, 253) := by decide +kernel
theorem zf_2_29 : zFS.lookup (2, 29) = some (2, 2, 0, 254) := by decide +kernel
theorem zf_2_33 : zFS.lookup (2, 33) = some (2, 6, 0, 258) := by decide +kernel
theorem zf_2_37 : zFS.lookup (2, 37) = some (0, 4, 1, 179) := by decide +kernel
theorem zf_2_48 : zFS.lookup (2, 48) = some (7, 1, 1, 146) := by decide +kernel
theorem zf_2_9 : zFS.lookup (2, 9) = some (2, 3, 0, 255) := by decide +kernel
theorem zf_3_102 : zFS.lookup (3, 102) = some (1, 4, 1, 128) := by decide +kernel
theorem zf_3_105 : zFS.lookup (3, 105) = some (7, 2, 1, 150) := by decide +kernel
theorem zf_3_15 : zFS.lookup (3, 15) = some (3, 3, 0, 227) := by decide +kernel
theorem zf_3_18 : zFS.lookup (3, 18) = some (3, 4, 0, 228) := by decide +kernel
theorem zf_3_21 : zFS.lookup (3, 21) = some (3, 5, 0, 229) := by decide +kernel
theorem zf_3_24 : zFS.lookup (3, 24) = some (3, 0, 0, 224) := by decide +kernel
theorem zf_3_28 : zFS.lookup (3, 28) = some (3, 1, 0, 225) := by decide +kernel
theorem zf_3_44 : zFS.lookup (3, 44) = some (3, 6, 0, 230) := by decide +kernel
theorem zf_3_48 : zFS.lookup (3, 48) = some (0, 2, 1, 170) := by decide +kernel
theorem zf_3_53 : zFS.lookup (3, 53) = some (0, 3, 1, 174) := by decide +kernel
theorem zf_3_64 : zFS.lookup (3, 64) = some (7, 1, 1, 148) := by decide +kernel
theorem zf_3_78 : zFS.lookup (3, 78) = some (0, 1, 1, 168) := by decide +kernel
theorem zf_3_81 : zFS.lookup (3, 81) = some (7, 0, 1, 143) := by decide +kernel
theorem zf_3_85 : zFS.lookup (3, 85) = some (1, 0, 1, 116) := by decide +kernel
theorem zf_3_9 : zFS.lookup (3, 9) = some (3, 2, 0, 226) := by decide +kernel
theorem zf_4_15 : zFS.lookup (4, 15) = some (4, 1, 0, 205) := by decide +kernel
theorem zf_4_18 : zFS.lookup (4, 18) = some (4, 2, 0, 206) := by decide +kernel
theorem zf_4_21 : zFS.lookup (4, 21) = some (4, 3, 0, 207) := by decide +kernel
theorem zf_4_9 : zFS.lookup (4, 9) = some (4, 0, 0, 204) := by decide +kernel
theorem zf_5_15 : zFS.lookup (5, 15) = some (5, 4, 0, 285) := by decide +kernel
theorem zf_5_18 : zFS.lookup (5, 18) = some (5, 0, 0, 281) := by decide +kernel
theorem zf_5_22 : zFS.lookup (5, 22) = some (5, 1, 0, 282) := by decide +kernel
theorem zf_5_26 : zFS.lookup (5, 26) = some (5, 2, 0, 283) := by decide +kernel
theorem zf_5_30 : zFS.lookup (5, 30) = some (5, 5, 0, 286) := by decide +kernel
theorem zf_5_40 : zFS.lookup (5, 40) = some (5, 7, 0, 289) := by decide +kernel
theorem zf_5_44 : zFS.lookup (5, 44) = some (0, 4, 1, 178) := by decide +kernel
theorem zf_5_55 : zFS.lookup (5, 55) = some (5, 6, 0, 287) := by decide +kernel
theorem zf_5_62 : zFS.lookup (5, 62) = some (0, 5, 1, 182) := by decide +kernel
theorem zf_5_73 : zFS.lookup (5, 73) = some (7, 1, 1, 147) := by decide +kernel
theorem zf_5_86 : zFS.lookup (5, 86) = some (0, 3, 1, 176) := by decide +kernel
theorem zf_5_9 : zFS.lookup (5, 9) = some (5, 3, 0, 284) := by decide +kernel
theorem zf_5_93 : zFS.lookup (5, 93) = some (0, 2, 1, 172) := by decide +kernel
theorem zf_6_15 : zFS.lookup (6, 15) = some (6, 2, 0, 320) := by decide +kernel
theorem zf_6_19 : zFS.lookup (6, 19) = some (6, 3, 0, 322) := by decide +kernel
theorem zf_6_22 : zFS.lookup (6, 22) = some (6, 1, 0, 318) := by decide +kernel
theorem zf_6_9 : zFS.lookup (6, 9) = some (6, 0, 0, 315) := by decide +kernel
theorem zf_7_11 : zFS.lookup (7, 11) = some (7, 0, 0, 140) := by decide +kernel
theorem zf_7_18 : zFS.lookup (7, 18) = some (7, 1, 0, 144) := by decide +kernel
theorem zf_7_22 : zFS.lookup (7, 22) = some (6, 0, 1, 316) := by decide +kernel
theorem zf_7_28 : zFS.lookup (7, 28) = some (7, 2, 0, 149) := by decide +kernel
theorem zf_7_35 : zFS.lookup (7, 35) = some (1, 0, 1, 115) := by decide +kernel
theorem zf_7_38 : zFS.lookup (7, 38) = some (1, 1, 1, 118) := by decide +kernel
theorem zf_7_41 : zFS.lookup (7, 41) = some (1, 2, 1, 122) := by decide +kernel
theorem zf_7_44 : zFS.lookup (7, 44) = some (1, 3, 1, 125) := by decide +kernel
theorem zf_7_47 : zFS.lookup (7, 47) = some (1, 4, 1, 127) := by decide +kernel
theorem zf_8_106 : zFS.lookup (8, 106) = some (4, 3, 1, 208) := by decide +kernel
theorem zf_8_112 : zFS.lookup (8, 112) = some (7, 1, 1, 145) := by decide +kernel
theorem zf_8_116 : zFS.lookup (8, 116) = some (7, 0, 1, 141) := by decide +kernel
theorem zf_8_120 : zFS.lookup (8, 120) = some (1, 0, 1, 114) := by decide +kernel
theorem zf_8_125 : zFS.lookup (8, 125) = some (1, 1, 1, 117) := by decide +kernel
theorem zf_8_128 : zFS.lookup (8, 128) = some (1, 2, 1, 121) := by decide +kernel
theorem zf_8_131 : zFS.lookup (8, 131) = some (1, 3, 1, 124) := by decide +kernel
theorem zf_8_134 : zFS.lookup (8, 134) = some (1, 4, 1, 126) := by decide +kernel
theorem zf_8_14 : zFS.lookup (8, 14) = some (8, 0, 0, 333) := by decide +kernel
theorem zf_8_144 : zFS.lookup (8, 144) = some (0, 5, 1, 183) := by decide +kernel
theorem zf_8_150 : zFS.lookup (8, 150) = some (0, 1, 1, 167) := by decide +kernel
theorem zf_8_154 : zFS.lookup (8, 154) = some (0, 2, 1, 171) := by decide +kernel
theorem zf_8_157 : zFS.lookup (8, 157) = some (0, 3, 1, 175) := by decide +kernel
theorem zf_8_160 : zFS.lookup (8, 160) = some (0, 4, 1, 180) := by decide +kernel
theorem zf_8_23 : zFS.lookup (8, 23) = some (8, 1, 0, 334) := by decide +kernel
theorem zf_8_232 : zFS.lookup (8, 232) = some (5, 6, 1, 288) := by decide +kernel
theorem zf_8_242 : zFS.lookup (8, 242) = some (6, 3, 1, 323) := by decide +kernel
theorem zf_8_245 : zFS.lookup (8, 245) = some (6, 0, 1, 317) := by decide +kernel
theorem zf_8_251 : zFS.lookup (8, 251) = some (6, 2, 1, 321) := by decide +kernel
theorem zf_8_273 : zFS.lookup (8, 273) = some (8, 9, 0, 342) := by decide +kernel
theorem zf_8_276 : zFS.lookup (8, 276) = some (7, 2, 1, 151) := by decide +kernel
theorem zf_8_279 : zFS.lookup (8, 279) = some (8, 8, 0, 341) := by decide +kernel
theorem zf_8_282 : zFS.lookup (8, 282) = some (2, 6, 1, 259) := by decide +kernel
theorem zf_8_285 : zFS.lookup (8, 285) = some (5, 7, 1, 290) := by decide +kernel
theorem zf_8_30 : zFS.lookup (8, 30) = some (8, 2, 0, 335) := by decide +kernel
theorem zf_8_39 : zFS.lookup (8, 39) = some (8, 4, 0, 337) := by decide +kernel
theorem zf_8_43 : zFS.lookup (8, 43) = some (8, 5, 0, 338) := by decide +kernel
theorem zf_8_51 : zFS.lookup (8, 51) = some (8, 6, 0, 339) := by decide +kernel
theorem zf_8_58 : zFS.lookup (8, 58) = some (8, 7, 0, 340) := by decide +kernel
theorem zf_8_64 : zFS.lookup (8, 64) = some (8, 3, 0, 336) := by decide +kernel
theorem zf_8_69 : zFS.lookup (8, 69) = some (8, 10, 0, 343) := by decide +kernel
theorem zf_8_87 : zFS.lookup (8, 87) = some (6, 1, 1, 319) := by decide +kernel
theorem zf_9_106 : zFS.lookup (9, 106) = some (9, 10, 0, 754) := by decide +kernel
theorem zf_9_113 : zFS.lookup (9, 113) = some (9, 9, 0, 753) := by decide +kernel
theorem zf_9_13 : zFS.lookup (9, 13) = some (9, 4, 0, 748) := by decide +kernel
theorem zf_9_140 : zFS.lookup (9, 140) = some (9, 2, 0, 746) := by decide +kernel
theorem zf_9_143 : zFS.lookup (9, 143) = some (9, 13, 0, 757) := by decide +kernel
theorem zf_9_146 : zFS.lookup (9, 146) = some (9, 27, 0, 771) := by decide +kernel
theorem zf_9_16 : zFS.lookup (9, 16) = some (9, 5, 0, 749) := by decide +kernel
theorem zf_9_171 : zFS.lookup (9, 171) = some (9, 21, 0, 765) := by decide +kernel
theorem zf_9_174 : zFS.lookup (9, 174) = some (9, 22, 0, 766) := by decide +kernel
theorem zf_9_177 : zFS.lookup (9, 177) = some (9, 23, 0, 767) := by decide +kernel
theorem zf_9_180 : zFS.lookup (9, 180) = some (9, 24, 0, 768) := by decide +kernel
theorem zf_9_19 : zFS.lookup (9, 19) = some (9, 6, 0, 750) := by decide +kernel
theorem zf_9_22 : zFS.lookup (9, 22) = some (9, 7, 0, 751) := by decide +kernel
theorem zf_9_25 : zFS.lookup (9, 25) = some (9, 11, 0, 755) := by decide +kernel
theorem zf_9_267 : zFS.lookup (9, 267) = some (9, 35, 0, 779) := by decide +kernel
theorem zf_9_28 : zFS.lookup (9, 28) = some (9, 12, 0, 756) := by decide +kernel
theorem zf_9_31 : zFS.lookup (9, 31) = some (9, 14, 0, 758) := by decide +kernel
theorem zf_9_34 : zFS.lookup (9, 34) = some (9, 15, 0, 759) := by decide +kernel
theorem zf_9_37 : zFS.lookup (9, 37) = some (9, 16, 0, 760) := by decide +kernel
theorem zf_9_40 : zFS.lookup (9, 40) = some (9, 17, 0, 761) := by decide +kernel
theorem zf_9_43 : zFS.lookup (9, 43) = some (9, 18, 0, 762) := by decide +kernel
theorem zf_9_46 : zFS.lookup (9, 46) = some (9, 19, 0, 763) := by decide +kernel
theorem zf_9_49 : zFS.lookup (9, 49) = some (9, 20, 0, 764) := by decide +kernel
theorem zf_9_53 : zFS.lookup (9, 53) = some (9, 25, 0, 769) := by decide +kernel
theorem zf_9_56 : zFS.lookup (9, 56) = some (9, 26, 0, 770) := by decide +kernel
theorem zf_9_59 : zFS.lookup (9, 59) = some (9, 28, 0, 772) := by decide +kernel
theorem zf_9_62 : zFS.lookup (9, 62) = some (9, 29, 0, 773) := by decide +kernel
theorem zf_9_65 : zFS.lookup (9, 65) = some (9, 30, 0, 774) := by decide +kernel
theorem zf_9_68 : zFS.lookup (9, 68) = some (9, 31, 0, 775) := by decide +kernel
theorem zf_9_7 : zFS.lookup (9, 7) = some (9, 3, 0, 747) := by decide +kernel
theorem zf_9_71 : zFS.lookup (9, 71) = some (9, 32, 0, 776) := by decide +kernel
theorem zf_9_74 : zFS.lookup (9, 74) = some (9, 33, 0, 777) := by decide +kernel
theorem zf_9_77 : zFS.lookup (9, 77) = some (9, 34, 0, 778) := by decide +kernel
theorem zf_9_82 : zFS.lookup (9, 82) = some (9, 0, 0, 744) := by decide +kernel
theorem zf_9_90 : zFS.lookup (9, 90) = some (9, 1, 0, 745) := by decide +kernel
theorem zf_9_97 : zFS.lookup (9, 97) = some (9, 8, 0, 752) := by decide +kernel
end
section
theorem dX0_has_0 : decode cX0_has 0 = .ok (.iload_n 1, 1) := by decide +kernel
theorem dX0_has_1 : decode cX0_has 1 = .ok (.ifCond .lt 15, 3) := by decide +kernel
theorem dX0_has_4 : decode cX0_has 4 = .ok (.iload_n 1, 1) := by decide +kernel
theorem dX0_has_5 : decode cX0_has 5 = .ok (.aload_n 0, 1) := by decide +kernel
theorem dX0_has_6 : decode cX0_has 6 = .ok (.getfield 28, 3) := by decide +kernel
theorem dX0_has_9 : decode cX0_has 9 = .ok (.if_icmp .ge 7, 3) := by decide +kernel
theorem dX0_has_12 : decode cX0_has 12 = .ok (.iconst 1, 1) := by decide +kernel
theorem dX0_has_13 : decode cX0_has 13 = .ok (.goto 4, 3) := by decide +kernel
theorem dX0_has_16 : decode cX0_has 16 = .ok (.iconst 0, 1) := by decide +kernel
theorem dX0_has_17 : decode cX0_has 17 = .ok (.ireturn, 1) := by decide +kernel
theorem dX0_leave_0 : decode cX0_leave 0 = .ok (.aload_n 0, 1) := by decide +kernel
theorem dX0_leave_1 : decode cX0_leave 1 = .ok (.iconst 0, 1) := by decide +kernel
theorem dX0_leave_2 : decode cX0_leave 2 = .ok (.putfield 28, 3) := by decide +kernel
theorem dX0_leave_5 : decode cX0_leave 5 = .ok (.iconst 0, 1) := by decide +kernel
theorem dX0_leave_6 : decode cX0_leave 6 = .ok (.istore_n 1, 1) := by decide +kernel
theorem dX0_leave_7 : decode cX0_leave 7 = .ok (.iload_n 1, 1) := by decide +kernel
theorem dX0_leave_8 : decode cX0_leave 8 = .ok (.bipush 9, 2) := by decide +kernel
theorem dX0_leave_10 : decode cX0_leave 10 = .ok (.if_icmp .ge 17, 3) := by decide +kernel
theorem dX0_leave_13 : decode cX0_leave 13 = .ok (.aload_n 0, 1) := by decide +kernel
theorem dX0_leave_14 : decode cX0_leave 14 = .ok (.getfield 21, 3) := by decide +kernel
theorem dX0_leave_17 : decode cX0_leave 17 = .ok (.iload_n 1, 1) := by decide +kernel
theorem dX0_leave_18 : decode cX0_leave 18 = .ok (.bipush (-9), 2) := by decide +kernel
theorem dX0_leave_20 : decode cX0_leave 20 = .ok (.iastore, 1) := by decide +kernel
theorem dX0_leave_21 : decode cX0_leave 21 = .ok (.iinc 1 1, 3) := by decide +kernel
theorem dX0_leave_24 : decode cX0_leave 24 = .ok (.goto (-17), 3) := by decide +kernel
theorem dX0_leave_27 : decode cX0_leave 27 = .ok (.return_, 1) := by decide +kernel
theorem dX0_enter_0 : decode cX0_enter 0 = .ok (.aload_n 0, 1) := by decide +kernel
theorem dX0_enter_1 : decode cX0_enter 1 = .ok (.getfield 9, 3) := by decide +kernel
theorem dX0_enter_4 : decode cX0_enter 4 = .ok (.iload_n 1, 1) := by decide +kernel
theorem dX0_enter_5 : decode cX0_enter 5 = .ok (.iload_n 2, 1) := by decide +kernel
theorem dX0_enter_6 : decode cX0_enter 6 = .ok (.iastore, 1) := by decide +kernel
theorem dX0_enter_7 : decode cX0_enter 7 = .ok (.aload_n 0, 1) := by decide +kernel
theorem dX0_enter_8 : decode cX0_enter 8 = .ok (.getfield 15, 3) := by decide +kernel
theorem dX0_enter_11 : decode cX0_enter 11 = .ok (.iload_n 1, 1) := by decide +kernel
theorem dX0_enter_12 : decode cX0_enter 12 = .ok (.iload_n 3, 1) := by decide +kernel
theorem dX0_enter_13 : decode cX0_enter 13 = .ok (.iastore, 1) := by decide +kernel
theorem dX0_enter_14 : decode cX0_enter 14 = .ok (.aload_n 0, 1) := by decide +kernel
theorem dX0_enter_15 : decode cX0_enter 15 = .ok (.getfield 18, 3) := by decide +kernel
theorem dX0_enter_18 : decode cX0_enter 18 = .ok (.iload_n 1, 1) := by decide +kernel
theorem dX0_enter_19 : decode cX0_enter 19 = .ok (.iload 4, 2) := by decide +kernel
theorem dX0_enter_21 : decode cX0_enter 21 = .ok (.iastore, 1) := by decide +kernel
theorem dX0_enter_22 : decode cX0_enter 22 = .ok (.aload_n 0, 1) := by decide +kernel
theorem dX0_enter_23 : decode cX0_enter 23 = .ok (.getfield 21, 3) := by decide +kernel
theorem dX0_enter_26 : decode cX0_enter 26 = .ok (.iload_n 1, 1) := by decide +kernel
theorem dX0_enter_27 : decode cX0_enter 27 = .ok (.bipush (-9), 2) := by decide +kernel
theorem dX0_enter_29 : decode cX0_enter 29 = .ok (.iastore, 1) := by decide +kernel
theorem dX0_enter_30 : decode cX0_enter 30 = .ok (.return_, 1) := by decide +kernel
theorem dX0_isThere_0 : decode cX0_isThere 0 = .ok (.aload_n 0, 1) := by decide +kernel
theorem dX0_isThere_1 : decode cX0_isThere 1 = .ok (.getfield 15, 3) := by decide +kernel
theorem dX0_isThere_4 : decode cX0_isThere 4 = .ok (.iload_n 1, 1) := by decide +kernel
theorem dX0_isThere_5 : decode cX0_isThere 5 = .ok (.iaload, 1) := by decide +kernel
theorem dX0_isThere_6 : decode cX0_isThere 6 = .ok (.iload_n 2, 1) := by decide +kernel
theorem dX0_isThere_7 : decode cX0_isThere 7 = .ok (.if_icmp .gt 17, 3) := by decide +kernel
theorem dX0_isThere_10 : decode cX0_isThere 10 = .ok (.iload_n 2, 1) := by decide +kernel
theorem dX0_isThere_11 : decode cX0_isThere 11 = .ok (.aload_n 0, 1) := by decide +kernel
theorem dX0_isThere_12 : decode cX0_isThere 12 = .ok (.getfield 18, 3) := by decide +kernel
theorem dX0_isThere_15 : decode cX0_isThere 15 = .ok (.iload_n 1, 1) := by decide +kernel
theorem dX0_isThere_16 : decode cX0_isThere 16 = .ok (.iaload, 1) := by decide +kernel
theorem dX0_isThere_17 : decode cX0_isThere 17 = .ok (.if_icmp .gt 7, 3) := by decide +kernel
theorem dX0_isThere_20 : decode cX0_isThere 20 = .ok (.iconst 1, 1) := by decide +kernel
theorem dX0_isThere_21 : decode cX0_isThere 21 = .ok (.goto 4, 3) := by decide +kernel
theorem dX0_isThere_24 : decode cX0_isThere 24 = .ok (.iconst 0, 1) := by decide +kernel
theorem dX0_isThere_25 : decode cX0_isThere 25 = .ok (.ireturn, 1) := by decide +kernel
theorem dX0_haveBeds_0 : decode cX0_haveBeds 0 = .ok (.iconst 0, 1) := by decide +kernel
theorem dX0_haveBeds_1 : decode cX0_haveBeds 1 = .ok (.istore_n 2, 1) := by decide +kernel
theorem dX0_haveBeds_2 : decode cX0_haveBeds 2 = .ok (.iload_n 2, 1) := by decide +kernel
theorem dX0_haveBeds_3 : decode cX0_haveBeds 3 = .ok (.aload_n 0, 1) := by decide +kernel
theorem dX0_haveBeds_4 : decode cX0_haveBeds 4 = .ok (.getfield 28, 3) := by decide +kernel
theorem dX0_haveBeds_7 : decode cX0_haveBeds 7 = .ok (.if_icmp .ge 53, 3) := by decide +kernel
theorem dX0_haveBeds_10 : decode cX0_haveBeds 10 = .ok (.aload_n 1, 1) := by decide +kernel
theorem dX0_haveBeds_11 : decode cX0_haveBeds 11 = .ok (.iload_n 2, 1) := by decide +kernel
theorem dX0_haveBeds_12 : decode cX0_haveBeds 12 = .ok (.iaload, 1) := by decide +kernel
theorem dX0_haveBeds_13 : decode cX0_haveBeds 13 = .ok (.istore_n 3, 1) := by decide +kernel
theorem dX0_haveBeds_14 : decode cX0_haveBeds 14 = .ok (.aload_n 0, 1) := by decide +kernel
theorem dX0_haveBeds_15 : decode cX0_haveBeds 15 = .ok (.getfield 24, 3) := by decide +kernel
theorem dX0_haveBeds_18 : decode cX0_haveBeds 18 = .ok (.iload_n 3, 1) := by decide +kernel
theorem dX0_haveBeds_19 : decode cX0_haveBeds 19 = .ok (.invokevirtual 32, 3) := by decide +kernel
theorem dX0_haveBeds_22 : decode cX0_haveBeds 22 = .ok (.ifCond .eq 32, 3) := by decide +kernel
theorem dX0_haveBeds_25 : decode cX0_haveBeds 25 = .ok (.aload_n 0, 1) := by decide +kernel
theorem dX0_haveBeds_26 : decode cX0_haveBeds 26 = .ok (.aload_n 1, 1) := by decide +kernel
theorem dX0_haveBeds_27 : decode cX0_haveBeds 27 = .ok (.iload_n 3, 1) := by decide +kernel
theorem dX0_haveBeds_28 : decode cX0_haveBeds 28 = .ok (.aload_n 0, 1) := by decide +kernel
theorem dX0_haveBeds_29 : decode cX0_haveBeds 29 = .ok (.getfield 15, 3) := by decide +kernel
theorem dX0_haveBeds_32 : decode cX0_haveBeds 32 = .ok (.iload_n 2, 1) := by decide +kernel
theorem dX0_haveBeds_33 : decode cX0_haveBeds 33 = .ok (.iaload, 1) := by decide +kernel
theorem dX0_haveBeds_34 : decode cX0_haveBeds 34 = .ok (.invokevirtual 38, 3) := by decide +kernel
theorem dX0_haveBeds_37 : decode cX0_haveBeds 37 = .ok (.aload_n 0, 1) := by decide +kernel
theorem dX0_haveBeds_38 : decode cX0_haveBeds 38 = .ok (.getfield 24, 3) := by decide +kernel
theorem dX0_haveBeds_41 : decode cX0_haveBeds 41 = .ok (.getfield 42, 3) := by decide +kernel
theorem dX0_haveBeds_44 : decode cX0_haveBeds 44 = .ok (.iload_n 3, 1) := by decide +kernel
theorem dX0_haveBeds_45 : decode cX0_haveBeds 45 = .ok (.aaload, 1) := by decide +kernel
theorem dX0_haveBeds_46 : decode cX0_haveBeds 46 = .ok (.getfield 46, 3) := by decide +kernel
theorem dX0_haveBeds_49 : decode cX0_haveBeds 49 = .ok (.if_icmp .le 5, 3) := by decide +kernel
theorem dX0_haveBeds_52 : decode cX0_haveBeds 52 = .ok (.iconst 0, 1) := by decide +kernel
theorem dX0_haveBeds_53 : decode cX0_haveBeds 53 = .ok (.ireturn, 1) := by decide +kernel
theorem dX0_haveBeds_54 : decode cX0_haveBeds 54 = .ok (.iinc 2 1, 3) := by decide +kernel
theorem dX0_haveBeds_57 : decode cX0_haveBeds 57 = .ok (.goto (-55), 3) := by decide +kernel
theorem dX0_haveBeds_60 : decode cX0_haveBeds 60 = .ok (.iconst 1, 1) := by decide +kernel
theorem dX0_haveBeds_61 : decode cX0_haveBeds 61 = .ok (.ireturn, 1) := by decide +kernel
theorem dX0_sleepers_0 : decode cX0_sleepers 0 = .ok (.iconst 0, 1) := by decide +kernel
theorem dX0_sleepers_1 : decode cX0_sleepers 1 = .ok (.istore 4, 2) := by decide +kernel
theorem dX0_sleepers_3 : decode cX0_sleepers 3 = .ok (.iconst 0, 1) := by decide +kernel
theorem dX0_sleepers_4 : decode cX0_sleepers 4 = .ok (.istore 5, 2) := by decide +kernel
theorem dX0_sleepers_6 : decode cX0_sleepers 6 = .ok (.iload 5, 2) := by decide +kernel
theorem dX0_sleepers_8 : decode cX0_sleepers 8 = .ok (.aload_n 0, 1) := by decide +kernel
theorem dX0_sleepers_9 : decode cX0_sleepers 9 = .ok (.getfield 28, 3) := by decide +kernel
theorem dX0_sleepers_12 : decode cX0_sleepers 12 = .ok (.if_icmp .ge 30, 3) := by decide +kernel
theorem dX0_sleepers_15 : decode cX0_sleepers 15 = .ok (.aload_n 1, 1) := by decide +kernel
theorem dX0_sleepers_16 : decode cX0_sleepers 16 = .ok (.iload 5, 2) := by decide +kernel
theorem dX0_sleepers_18 : decode cX0_sleepers 18 = .ok (.iaload, 1) := by decide +kernel
theorem dX0_sleepers_19 : decode cX0_sleepers 19 = .ok (.iload_n 2, 1) := by decide +kernel
theorem dX0_sleepers_20 : decode cX0_sleepers 20 = .ok (.if_icmp .ne 16, 3) := by decide +kernel
theorem dX0_sleepers_23 : decode cX0_sleepers 23 = .ok (.aload_n 0, 1) := by decide +kernel
theorem dX0_sleepers_24 : decode cX0_sleepers 24 = .ok (.iload 5, 2) := by decide +kernel
theorem dX0_sleepers_26 : decode cX0_sleepers 26 = .ok (.iload_n 3, 1) := by decide +kernel
theorem dX0_sleepers_27 : decode cX0_sleepers 27 = .ok (.invokevirtual 51, 3) := by decide +kernel
theorem dX0_sleepers_30 : decode cX0_sleepers 30 = .ok (.ifCond .eq 6, 3) := by decide +kernel
theorem dX0_sleepers_33 : decode cX0_sleepers 33 = .ok (.iinc 4 1, 3) := by decide +kernel
theorem dX0_sleepers_36 : decode cX0_sleepers 36 = .ok (.iinc 5 1, 3) := by decide +kernel
theorem dX0_sleepers_39 : decode cX0_sleepers 39 = .ok (.goto (-33), 3) := by decide +kernel
theorem dX0_sleepers_42 : decode cX0_sleepers 42 = .ok (.iload 4, 2) := by decide +kernel
theorem dX0_sleepers_44 : decode cX0_sleepers 44 = .ok (.ireturn, 1) := by decide +kernel
theorem dX1_pressedBy_0 : decode cX1_pressedBy 0 = .ok (.iload_n 1, 1) := by decide +kernel
theorem dX1_pressedBy_1 : decode cX1_pressedBy 1 = .ok (.aload_n 0, 1) := by decide +kernel
theorem dX1_pressedBy_2 : decode cX1_pressedBy 2 = .ok (.getfield 9, 3) := by decide +kernel
theorem dX1_pressedBy_5 : decode cX1_pressedBy 5 = .ok (.imul, 1) := by decide +kernel
theorem dX1_pressedBy_6 : decode cX1_pressedBy 6 = .ok (.istore_n 3, 1) := by decide +kernel
theorem dX1_pressedBy_7 : decode cX1_pressedBy 7 = .ok (.iload_n 2, 1) := by decide +kernel
theorem dX1_pressedBy_8 : decode cX1_pressedBy 8 = .ok (.ifCond .eq 9, 3) := by decide +kernel
theorem dX1_pressedBy_11 : decode cX1_pressedBy 11 = .ok (.iload_n 3, 1) := by decide +kernel
theorem dX1_pressedBy_12 : decode cX1_pressedBy 12 = .ok (.iconst 2, 1) := by decide +kernel
theorem dX1_pressedBy_13 : decode cX1_pressedBy 13 = .ok (.idiv, 1) := by decide +kernel
theorem dX1_pressedBy_14 : decode cX1_pressedBy 14 = .ok (.goto 4, 3) := by decide +kernel
theorem dX1_pressedBy_17 : decode cX1_pressedBy 17 = .ok (.iload_n 3, 1) := by decide +kernel
theorem dX1_pressedBy_18 : decode cX1_pressedBy 18 = .ok (.ireturn, 1) := by decide +kernel
theorem dX1_comesUp_0 : decode cX1_comesUp 0 = .ok (.iload_n 1, 1) := by decide +kernel
theorem dX1_comesUp_1 : decode cX1_comesUp 1 = .ok (.ifCond .ne 11, 3) := by decide +kernel
theorem dX1_comesUp_4 : decode cX1_comesUp 4 = .ok (.bipush 10, 2) := by decide +kernel
theorem dX1_comesUp_6 : decode cX1_comesUp 6 = .ok (.aload_n 0, 1) := by decide +kernel
theorem dX1_comesUp_7 : decode cX1_comesUp 7 = .ok (.getfield 15, 3) := by decide +kernel
theorem dX1_comesUp_10 : decode cX1_comesUp 10 = .ok (.imul, 1) := by decide +kernel
theorem dX1_comesUp_11 : decode cX1_comesUp 11 = .ok (.ireturn, 1) := by decide +kernel
theorem dX1_comesUp_12 : decode cX1_comesUp 12 = .ok (.iload_n 2, 1) := by decide +kernel
theorem dX1_comesUp_13 : decode cX1_comesUp 13 = .ok (.ifCond .ne 11, 3) := by decide +kernel
theorem dX1_comesUp_16 : decode cX1_comesUp 16 = .ok (.aload_n 0, 1) := by decide +kernel
theorem dX1_comesUp_17 : decode cX1_comesUp 17 = .ok (.getfield 18, 3) := by decide +kernel
theorem dX1_comesUp_20 : decode cX1_comesUp 20 = .ok (.iconst 1, 1) := by decide +kernel
theorem dX1_comesUp_21 : decode cX1_comesUp 21 = .ok (.if_icmp .lt 12, 3) := by decide +kernel
theorem dX1_comesUp_24 : decode cX1_comesUp 24 = .ok (.iconst 5, 1) := by decide +kernel
theorem dX1_comesUp_25 : decode cX1_comesUp 25 = .ok (.aload_n 0, 1) := by decide +kernel
theorem dX1_comesUp_26 : decode cX1_comesUp 26 = .ok (.getfield 15, 3) := by decide +kernel
theorem dX1_comesUp_29 : decode cX1_comesUp 29 = .ok (.imul, 1) := by decide +kernel
theorem dX1_comesUp_30 : decode cX1_comesUp 30 = .ok (.goto 4, 3) := by decide +kernel
theorem dX1_comesUp_33 : decode cX1_comesUp 33 = .ok (.iconst 0, 1) := by decide +kernel
theorem dX1_comesUp_34 : decode cX1_comesUp 34 = .ok (.ireturn, 1) := by decide +kernel
theorem dX2_planksFor_0 : decode cX2_planksFor 0 = .ok (.aload_n 0, 1) := by decide +kernel
theorem dX2_planksFor_1 : decode cX2_planksFor 1 = .ok (.getfield 15, 3) := by decide +kernel
theorem dX2_planksFor_4 : decode cX2_planksFor 4 = .ok (.iload_n 1, 1) := by decide +kernel
theorem dX2_planksFor_5 : decode cX2_planksFor 5 = .ok (.iaload, 1) := by decide +kernel
theorem dX2_planksFor_6 : decode cX2_planksFor 6 = .ok (.sipush 350, 3) := by decide +kernel
theorem dX2_planksFor_9 : decode cX2_planksFor 9 = .ok (.if_icmp .ne 8, 3) := by decide +kernel
theorem dX2_planksFor_12 : decode cX2_planksFor 12 = .ok (.bipush (-9), 2) := by decide +kernel
theorem dX2_planksFor_14 : decode cX2_planksFor 14 = .ok (.goto 9, 3) := by decide +kernel
theorem dX2_planksFor_17 : decode cX2_planksFor 17 = .ok (.aload_n 0, 1) := by decide +kernel
theorem dX2_planksFor_18 : decode cX2_planksFor 18 = .ok (.getfield 15, 3) := by decide +kernel
theorem dX2_planksFor_21 : decode cX2_planksFor 21 = .ok (.iload_n 1, 1) := by decide +kernel
theorem dX2_planksFor_22 : decode cX2_planksFor 22 = .ok (.iaload, 1) := by decide +kernel
theorem dX2_planksFor_23 : decode cX2_planksFor 23 = .ok (.ireturn, 1) := by decide +kernel
theorem dX2_houseFor_0 : decode cX2_houseFor 0 = .ok (.aload_n 0, 1) := by decide +kernel
theorem dX2_houseFor_1 : decode cX2_houseFor 1 = .ok (.getfield 15, 3) := by decide +kernel
theorem dX2_houseFor_4 : decode cX2_houseFor 4 = .ok (.iload_n 1, 1) := by decide +kernel
theorem dX2_houseFor_5 : decode cX2_houseFor 5 = .ok (.iaload, 1) := by decide +kernel
theorem dX2_houseFor_6 : decode cX2_houseFor 6 = .ok (.sipush 350, 3) := by decide +kernel
theorem dX2_houseFor_9 : decode cX2_houseFor 9 = .ok (.if_icmp .ne 8, 3) := by decide +kernel
theorem dX2_houseFor_12 : decode cX2_houseFor 12 = .ok (.bipush (-9), 2) := by decide +kernel
theorem dX2_houseFor_14 : decode cX2_houseFor 14 = .ok (.goto 13, 3) := by decide +kernel
theorem dX2_houseFor_17 : decode cX2_houseFor 17 = .ok (.aload_n 0, 1) := by decide +kernel
theorem dX2_houseFor_18 : decode cX2_houseFor 18 = .ok (.getfield 18, 3) := by decide +kernel
theorem dX2_houseFor_21 : decode cX2_houseFor 21 = .ok (.iload_n 1, 1) := by decide +kernel
theorem dX2_houseFor_22 : decode cX2_houseFor 22 = .ok (.iconst 4, 1) := by decide +kernel
theorem dX2_houseFor_23 : decode cX2_houseFor 23 = .ok (.imul, 1) := by decide +kernel
theorem dX2_houseFor_24 : decode cX2_houseFor 24 = .ok (.iload_n 2, 1) := by decide +kernel
theorem dX2_houseFor_25 : decode cX2_houseFor 25 = .ok (.iadd, 1) := by decide +kernel
theorem dX2_houseFor_26 : decode cX2_houseFor 26 = .ok (.iaload, 1) := by decide +kernel
theorem dX2_houseFor_27 : decode cX2_houseFor 27 = .ok (.ireturn, 1) := by decide +kernel
theorem dX2_search_0 : decode cX2_search 0 = .ok (.aload_n 0, 1) := by decide +kernel
theorem dX2_search_1 : decode cX2_search 1 = .ok (.getfield 33, 3) := by decide +kernel
theorem dX2_search_4 : decode cX2_search 4 = .ok (.iload_n 1, 1) := by decide +kernel
theorem dX2_search_5 : decode cX2_search 5 = .ok (.ishr, 1) := by decide +kernel
theorem dX2_search_6 : decode cX2_search 6 = .ok (.iconst 1, 1) := by decide +kernel
theorem dX2_search_7 : decode cX2_search 7 = .ok (.iand, 1) := by decide +kernel
theorem dX2_search_8 : decode cX2_search 8 = .ok (.iconst 1, 1) := by decide +kernel
theorem dX2_search_9 : decode cX2_search 9 = .ok (.if_icmp .ne 4, 3) := by decide +kernel
theorem dX2_search_12 : decode cX2_search 12 = .ok (.return_, 1) := by decide +kernel
theorem dX2_search_13 : decode cX2_search 13 = .ok (.aload_n 0, 1) := by decide +kernel
theorem dX2_search_14 : decode cX2_search 14 = .ok (.dup, 1) := by decide +kernel
theorem dX2_search_15 : decode cX2_search 15 = .ok (.getfield 33, 3) := by decide +kernel
theorem dX2_search_18 : decode cX2_search 18 = .ok (.iconst 1, 1) := by decide +kernel
theorem dX2_search_19 : decode cX2_search 19 = .ok (.iload_n 1, 1) := by decide +kernel
theorem dX2_search_20 : decode cX2_search 20 = .ok (.ishl, 1) := by decide +kernel
theorem dX2_search_21 : decode cX2_search 21 = .ok (.ior, 1) := by decide +kernel
theorem dX2_search_22 : decode cX2_search 22 = .ok (.putfield 33, 3) := by decide +kernel
theorem dX2_search_25 : decode cX2_search 25 = .ok (.aload_n 0, 1) := by decide +kernel
theorem dX2_search_26 : decode cX2_search 26 = .ok (.getfield 15, 3) := by decide +kernel
theorem dX2_search_29 : decode cX2_search 29 = .ok (.iload_n 1, 1) := by decide +kernel
theorem dX2_search_30 : decode cX2_search 30 = .ok (.sipush 350, 3) := by decide +kernel
theorem dX2_search_33 : decode cX2_search 33 = .ok (.iastore, 1) := by decide +kernel
theorem dX2_search_34 : decode cX2_search 34 = .ok (.aload_n 0, 1) := by decide +kernel
theorem dX2_search_35 : decode cX2_search 35 = .ok (.getfield 25, 3) := by decide +kernel
theorem dX2_search_38 : decode cX2_search 38 = .ok (.getfield 37, 3) := by decide +kernel
theorem dX2_search_41 : decode cX2_search 41 = .ok (.iconst 0, 1) := by decide +kernel
theorem dX2_search_42 : decode cX2_search 42 = .ok (.aload_n 0, 1) := by decide +kernel
theorem dX2_search_43 : decode cX2_search 43 = .ok (.getfield 9, 3) := by decide +kernel
theorem dX2_search_46 : decode cX2_search 46 = .ok (.iconst 0, 1) := by decide +kernel
theorem dX2_search_47 : decode cX2_search 47 = .ok (.bipush 9, 2) := by decide +kernel
theorem dX2_search_49 : decode cX2_search 49 = .ok (.invokestatic 42, 3) := by decide +kernel
theorem dX2_search_52 : decode cX2_search 52 = .ok (.iconst 1, 1) := by decide +kernel
theorem dX2_search_53 : decode cX2_search 53 = .ok (.istore_n 2, 1) := by decide +kernel
theorem dX2_search_54 : decode cX2_search 54 = .ok (.iconst 0, 1) := by decide +kernel
theorem dX2_search_55 : decode cX2_search 55 = .ok (.istore_n 3, 1) := by decide +kernel
theorem dX2_search_56 : decode cX2_search 56 = .ok (.iload_n 3, 1) := by decide +kernel
theorem dX2_search_57 : decode cX2_search 57 = .ok (.iload_n 1, 1) := by decide +kernel
theorem dX2_search_58 : decode cX2_search 58 = .ok (.if_icmp .ge 19, 3) := by decide +kernel
theorem dX2_search_61 : decode cX2_search 61 = .ok (.iload_n 2, 1) := by decide +kernel
theorem dX2_search_62 : decode cX2_search 62 = .ok (.aload_n 0, 1) := by decide +kernel
theorem dX2_search_63 : decode cX2_search 63 = .ok (.getfield 21, 3) := by decide +kernel
theorem dX2_search_66 : decode cX2_search 66 = .ok (.getfield 48, 3) := by decide +kernel
theorem dX2_search_69 : decode cX2_search 69 = .ok (.imul, 1) := by decide +kernel
theorem dX2_search_70 : decode cX2_search 70 = .ok (.istore_n 2, 1) := by decide +kernel
theorem dX2_search_71 : decode cX2_search 71 = .ok (.iinc 3 1, 3) := by decide +kernel
theorem dX2_search_74 : decode cX2_search 74 = .ok (.goto (-18), 3) := by decide +kernel
theorem dX2_search_77 : decode cX2_search 77 = .ok (.iconst 0, 1) := by decide +kernel
theorem dX2_search_78 : decode cX2_search 78 = .ok (.istore_n 3, 1) := by decide +kernel
theorem dX2_search_79 : decode cX2_search 79 = .ok (.iload_n 3, 1) := by decide +kernel
theorem dX2_search_80 : decode cX2_search 80 = .ok (.iload_n 2, 1) := by decide +kernel
theorem dX2_search_81 : decode cX2_search 81 = .ok (.if_icmp .ge 34, 3) := by decide +kernel
theorem dX2_search_84 : decode cX2_search 84 = .ok (.aload_n 0, 1) := by decide +kernel
theorem dX2_search_85 : decode cX2_search 85 = .ok (.iload_n 3, 1) := by decide +kernel
theorem dX2_search_86 : decode cX2_search 86 = .ok (.iload_n 1, 1) := by decide +kernel
theorem dX2_search_87 : decode cX2_search 87 = .ok (.invokevirtual 53, 3) := by decide +kernel
theorem dX2_search_90 : decode cX2_search 90 = .ok (.aload_n 0, 1) := by decide +kernel
theorem dX2_search_91 : decode cX2_search 91 = .ok (.getfield 25, 3) := by decide +kernel
theorem dX2_search_94 : decode cX2_search 94 = .ok (.aload_n 0, 1) := by decide +kernel
theorem dX2_search_95 : decode cX2_search 95 = .ok (.getfield 9, 3) := by decide +kernel
theorem dX2_search_98 : decode cX2_search 98 = .ok (.invokevirtual 57, 3) := by decide +kernel
theorem dX2_search_101 : decode cX2_search 101 = .ok (.ifCond .eq 8, 3) := by decide +kernel
theorem dX2_search_104 : decode cX2_search 104 = .ok (.aload_n 0, 1) := by decide +kernel
theorem dX2_search_105 : decode cX2_search 105 = .ok (.iload_n 1, 1) := by decide +kernel
theorem dX2_search_106 : decode cX2_search 106 = .ok (.invokevirtual 61, 3) := by decide +kernel
theorem dX2_search_109 : decode cX2_search 109 = .ok (.iinc 3 1, 3) := by decide +kernel
theorem dX2_search_112 : decode cX2_search 112 = .ok (.goto (-33), 3) := by decide +kernel
theorem dX2_search_115 : decode cX2_search 115 = .ok (.return_, 1) := by decide +kernel
theorem dX2_layOut_0 : decode cX2_layOut 0 = .ok (.iload_n 1, 1) := by decide +kernel
theorem dX2_layOut_1 : decode cX2_layOut 1 = .ok (.istore_n 3, 1) := by decide +kernel
theorem dX2_layOut_2 : decode cX2_layOut 2 = .ok (.iload_n 2, 1) := by decide +kernel
theorem dX2_layOut_3 : decode cX2_layOut 3 = .ok (.iconst 1, 1) := by decide +kernel
theorem dX2_layOut_4 : decode cX2_layOut 4 = .ok (.isub, 1) := by decide +kernel
theorem dX2_layOut_5 : decode cX2_layOut 5 = .ok (.istore 4, 2) := by decide +kernel
theorem dX2_layOut_7 : decode cX2_layOut 7 = .ok (.iload 4, 2) := by decide +kernel
theorem dX2_layOut_9 : decode cX2_layOut 9 = .ok (.ifCond .lt 45, 3) := by decide +kernel
theorem dX2_layOut_12 : decode cX2_layOut 12 = .ok (.aload_n 0, 1) := by decide +kernel
theorem dX2_layOut_13 : decode cX2_layOut 13 = .ok (.getfield 21, 3) := by decide +kernel
theorem dX2_layOut_16 : decode cX2_layOut 16 = .ok (.getfield 48, 3) := by decide +kernel
theorem dX2_layOut_19 : decode cX2_layOut 19 = .ok (.ifCond .le 35, 3) := by decide +kernel
theorem dX2_layOut_22 : decode cX2_layOut 22 = .ok (.aload_n 0, 1) := by decide +kernel
theorem dX2_layOut_23 : decode cX2_layOut 23 = .ok (.getfield 9, 3) := by decide +kernel
theorem dX2_layOut_26 : decode cX2_layOut 26 = .ok (.iload 4, 2) := by decide +kernel
theorem dX2_layOut_28 : decode cX2_layOut 28 = .ok (.iload_n 3, 1) := by decide +kernel
theorem dX2_layOut_29 : decode cX2_layOut 29 = .ok (.aload_n 0, 1) := by decide +kernel
theorem dX2_layOut_30 : decode cX2_layOut 30 = .ok (.getfield 21, 3) := by decide +kernel
theorem dX2_layOut_33 : decode cX2_layOut 33 = .ok (.getfield 48, 3) := by decide +kernel
theorem dX2_layOut_36 : decode cX2_layOut 36 = .ok (.irem, 1) := by decide +kernel
theorem dX2_layOut_37 : decode cX2_layOut 37 = .ok (.iastore, 1) := by decide +kernel
theorem dX2_layOut_38 : decode cX2_layOut 38 = .ok (.iload_n 3, 1) := by decide +kernel
theorem dX2_layOut_39 : decode cX2_layOut 39 = .ok (.aload_n 0, 1) := by decide +kernel
theorem dX2_layOut_40 : decode cX2_layOut 40 = .ok (.getfield 21, 3) := by decide +kernel
theorem dX2_layOut_43 : decode cX2_layOut 43 = .ok (.getfield 48, 3) := by decide +kernel
theorem dX2_layOut_46 : decode cX2_layOut 46 = .ok (.idiv, 1) := by decide +kernel
theorem dX2_layOut_47 : decode cX2_layOut 47 = .ok (.istore_n 3, 1) := by decide +kernel
theorem dX2_layOut_48 : decode cX2_layOut 48 = .ok (.iinc 4 (-1), 3) := by decide +kernel
theorem dX2_layOut_51 : decode cX2_layOut 51 = .ok (.goto (-44), 3) := by decide +kernel
theorem dX2_layOut_54 : decode cX2_layOut 54 = .ok (.return_, 1) := by decide +kernel
theorem dX2_keepIfFewer_0 : decode cX2_keepIfFewer 0 = .ok (.aload_n 0, 1) := by decide +kernel
theorem dX2_keepIfFewer_1 : decode cX2_keepIfFewer 1 = .ok (.getfield 29, 3) := by decide +kernel
theorem dX2_keepIfFewer_4 : decode cX2_keepIfFewer 4 = .ok (.aload_n 0, 1) := by decide +kernel
theorem dX2_keepIfFewer_5 : decode cX2_keepIfFewer 5 = .ok (.getfield 9, 3) := by decide +kernel
theorem dX2_keepIfFewer_8 : decode cX2_keepIfFewer 8 = .ok (.iconst 0, 1) := by decide +kernel
theorem dX2_keepIfFewer_9 : decode cX2_keepIfFewer 9 = .ok (.aload_n 0, 1) := by decide +kernel
theorem dX2_keepIfFewer_10 : decode cX2_keepIfFewer 10 = .ok (.getfield 15, 3) := by decide +kernel
theorem dX2_keepIfFewer_13 : decode cX2_keepIfFewer 13 = .ok (.iload_n 1, 1) := by decide +kernel
theorem dX2_keepIfFewer_14 : decode cX2_keepIfFewer 14 = .ok (.iaload, 1) := by decide +kernel
theorem dX2_keepIfFewer_15 : decode cX2_keepIfFewer 15 = .ok (.invokevirtual 65, 3) := by decide +kernel
theorem dX2_keepIfFewer_18 : decode cX2_keepIfFewer 18 = .ok (.istore_n 2, 1) := by decide +kernel
theorem dX2_keepIfFewer_19 : decode cX2_keepIfFewer 19 = .ok (.iload_n 2, 1) := by decide +kernel
theorem dX2_keepIfFewer_20 : decode cX2_keepIfFewer 20 = .ok (.aload_n 0, 1) := by decide +kernel
theorem dX2_keepIfFewer_21 : decode cX2_keepIfFewer 21 = .ok (.getfield 15, 3) := by decide +kernel
theorem dX2_keepIfFewer_24 : decode cX2_keepIfFewer 24 = .ok (.iload_n 1, 1) := by decide +kernel
theorem dX2_keepIfFewer_25 : decode cX2_keepIfFewer 25 = .ok (.iaload, 1) := by decide +kernel
theorem dX2_keepIfFewer_26 : decode cX2_keepIfFewer 26 = .ok (.if_icmp .ge 26, 3) := by decide +kernel
theorem dX2_keepIfFewer_29 : decode cX2_keepIfFewer 29 = .ok (.aload_n 0, 1) := by decide +kernel
theorem dX2_keepIfFewer_30 : decode cX2_keepIfFewer 30 = .ok (.getfield 15, 3) := by decide +kernel
theorem dX2_keepIfFewer_33 : decode cX2_keepIfFewer 33 = .ok (.iload_n 1, 1) := by decide +kernel
theorem dX2_keepIfFewer_34 : decode cX2_keepIfFewer 34 = .ok (.iload_n 2, 1) := by decide +kernel
theorem dX2_keepIfFewer_35 : decode cX2_keepIfFewer 35 = .ok (.iastore, 1) := by decide +kernel
theorem dX2_keepIfFewer_36 : decode cX2_keepIfFewer 36 = .ok (.aload_n 0, 1) := by decide +kernel
theorem dX2_keepIfFewer_37 : decode cX2_keepIfFewer 37 = .ok (.getfield 9, 3) := by decide +kernel
theorem dX2_keepIfFewer_40 : decode cX2_keepIfFewer 40 = .ok (.iconst 0, 1) := by decide +kernel
theorem dX2_keepIfFewer_41 : decode cX2_keepIfFewer 41 = .ok (.aload_n 0, 1) := by decide +kernel
theorem dX2_keepIfFewer_42 : decode cX2_keepIfFewer 42 = .ok (.getfield 18, 3) := by decide +kernel
theorem dX2_keepIfFewer_45 : decode cX2_keepIfFewer 45 = .ok (.iload_n 1, 1) := by decide +kernel
theorem dX2_keepIfFewer_46 : decode cX2_keepIfFewer 46 = .ok (.iconst 4, 1) := by decide +kernel
theorem dX2_keepIfFewer_47 : decode cX2_keepIfFewer 47 = .ok (.imul, 1) := by decide +kernel
theorem dX2_keepIfFewer_48 : decode cX2_keepIfFewer 48 = .ok (.iload_n 1, 1) := by decide +kernel
theorem dX2_keepIfFewer_49 : decode cX2_keepIfFewer 49 = .ok (.invokestatic 42, 3) := by decide +kernel
theorem dX2_keepIfFewer_52 : decode cX2_keepIfFewer 52 = .ok (.return_, 1) := by decide +kernel
theorem dX4_add_0 : decode cX4_add 0 = .ok (.aload_n 0, 1) := by decide +kernel
theorem dX4_add_1 : decode cX4_add 1 = .ok (.getfield 21, 3) := by decide +kernel
theorem dX4_add_4 : decode cX4_add 4 = .ok (.istore 4, 2) := by decide +kernel
theorem dX4_add_6 : decode cX4_add 6 = .ok (.aload_n 0, 1) := by decide +kernel
theorem dX4_add_7 : decode cX4_add 7 = .ok (.getfield 9, 3) := by decide +kernel
theorem dX4_add_10 : decode cX4_add 10 = .ok (.iload 4, 2) := by decide +kernel
theorem dX4_add_12 : decode cX4_add 12 = .ok (.iload_n 1, 1) := by decide +kernel
theorem dX4_add_13 : decode cX4_add 13 = .ok (.iastore, 1) := by decide +kernel
theorem dX4_add_14 : decode cX4_add 14 = .ok (.aload_n 0, 1) := by decide +kernel
theorem dX4_add_15 : decode cX4_add 15 = .ok (.getfield 15, 3) := by decide +kernel
theorem dX4_add_18 : decode cX4_add 18 = .ok (.iload 4, 2) := by decide +kernel
theorem dX4_add_20 : decode cX4_add 20 = .ok (.iload_n 2, 1) := by decide +kernel
theorem dX4_add_21 : decode cX4_add 21 = .ok (.iastore, 1) := by decide +kernel
theorem dX4_add_22 : decode cX4_add 22 = .ok (.aload_n 0, 1) := by decide +kernel
theorem dX4_add_23 : decode cX4_add 23 = .ok (.getfield 18, 3) := by decide +kernel
theorem dX4_add_26 : decode cX4_add 26 = .ok (.iload 4, 2) := by decide +kernel
theorem dX4_add_28 : decode cX4_add 28 = .ok (.iload_n 3, 1) := by decide +kernel
theorem dX4_add_29 : decode cX4_add 29 = .ok (.iastore, 1) := by decide +kernel
theorem dX4_add_30 : decode cX4_add 30 = .ok (.aload_n 0, 1) := by decide +kernel
theorem dX4_add_31 : decode cX4_add 31 = .ok (.iload 4, 2) := by decide +kernel
theorem dX4_add_33 : decode cX4_add 33 = .ok (.iconst 1, 1) := by decide +kernel
theorem dX4_add_34 : decode cX4_add 34 = .ok (.iadd, 1) := by decide +kernel
theorem dX4_add_35 : decode cX4_add 35 = .ok (.putfield 21, 3) := by decide +kernel
theorem dX4_add_38 : decode cX4_add 38 = .ok (.iload 4, 2) := by decide +kernel
theorem dX4_add_40 : decode cX4_add 40 = .ok (.ireturn, 1) := by decide +kernel
theorem dX4_lastDawn_0 : decode cX4_lastDawn 0 = .ok (.iconst 0, 1) := by decide +kernel
theorem dX4_lastDawn_1 : decode cX4_lastDawn 1 = .ok (.istore_n 1, 1) := by decide +kernel
theorem dX4_lastDawn_2 : decode cX4_lastDawn 2 = .ok (.iconst 0, 1) := by decide +kernel
theorem dX4_lastDawn_3 : decode cX4_lastDawn 3 = .ok (.istore_n 2, 1) := by decide +kernel
theorem dX4_lastDawn_4 : decode cX4_lastDawn 4 = .ok (.iload_n 2, 1) := by decide +kernel
theorem dX4_lastDawn_5 : decode cX4_lastDawn 5 = .ok (.aload_n 0, 1) := by decide +kernel
theorem dX4_lastDawn_6 : decode cX4_lastDawn 6 = .ok (.getfield 21, 3) := by decide +kernel
theorem dX4_lastDawn_9 : decode cX4_lastDawn 9 = .ok (.if_icmp .ge 20, 3) := by decide +kernel
theorem dX4_lastDawn_12 : decode cX4_lastDawn 12 = .ok (.iload_n 1, 1) := by decide +kernel
theorem dX4_lastDawn_13 : decode cX4_lastDawn 13 = .ok (.aload_n 0, 1) := by decide +kernel
theorem dX4_lastDawn_14 : decode cX4_lastDawn 14 = .ok (.getfield 15, 3) := by decide +kernel
theorem dX4_lastDawn_17 : decode cX4_lastDawn 17 = .ok (.iload_n 2, 1) := by decide +kernel
theorem dX4_lastDawn_18 : decode cX4_lastDawn 18 = .ok (.iaload, 1) := by decide +kernel
theorem dX4_lastDawn_19 : decode cX4_lastDawn 19 = .ok (.invokestatic 25, 3) := by decide +kernel
theorem dX4_lastDawn_22 : decode cX4_lastDawn 22 = .ok (.istore_n 1, 1) := by decide +kernel
theorem dX4_lastDawn_23 : decode cX4_lastDawn 23 = .ok (.iinc 2 1, 3) := by decide +kernel
theorem dX4_lastDawn_26 : decode cX4_lastDawn 26 = .ok (.goto (-22), 3) := by decide +kernel
theorem dX4_lastDawn_29 : decode cX4_lastDawn 29 = .ok (.iload_n 1, 1) := by decide +kernel
theorem dX4_lastDawn_30 : decode cX4_lastDawn 30 = .ok (.ireturn, 1) := by decide +kernel
theorem dX4_areSo_0 : decode cX4_areSo 0 = .ok (.iconst 0, 1) := by decide +kernel
theorem dX4_areSo_1 : decode cX4_areSo 1 = .ok (.istore_n 2, 1) := by decide +kernel
theorem dX4_areSo_2 : decode cX4_areSo 2 = .ok (.iload_n 2, 1) := by decide +kernel
theorem dX4_areSo_3 : decode cX4_areSo 3 = .ok (.aload_n 0, 1) := by decide +kernel
theorem dX4_areSo_4 : decode cX4_areSo 4 = .ok (.getfield 21, 3) := by decide +kernel
theorem dX4_areSo_7 : decode cX4_areSo 7 = .ok (.if_icmp .ge 36, 3) := by decide +kernel
theorem dX4_areSo_10 : decode cX4_areSo 10 = .ok (.aload_n 1, 1) := by decide +kernel
theorem dX4_areSo_11 : decode cX4_areSo 11 = .ok (.aload_n 0, 1) := by decide +kernel
theorem dX4_areSo_12 : decode cX4_areSo 12 = .ok (.getfield 9, 3) := by decide +kernel
theorem dX4_areSo_15 : decode cX4_areSo 15 = .ok (.iload_n 2, 1) := by decide +kernel
theorem dX4_areSo_16 : decode cX4_areSo 16 = .ok (.iaload, 1) := by decide +kernel
theorem dX4_areSo_17 : decode cX4_areSo 17 = .ok (.aload_n 0, 1) := by decide +kernel
theorem dX4_areSo_18 : decode cX4_areSo 18 = .ok (.getfield 15, 3) := by decide +kernel
theorem dX4_areSo_21 : decode cX4_areSo 21 = .ok (.iload_n 2, 1) := by decide +kernel
theorem dX4_areSo_22 : decode cX4_areSo 22 = .ok (.iaload, 1) := by decide +kernel
theorem dX4_areSo_23 : decode cX4_areSo 23 = .ok (.invokevirtual 31, 3) := by decide +kernel
theorem dX4_areSo_26 : decode cX4_areSo 26 = .ok (.aload_n 0, 1) := by decide +kernel
theorem dX4_areSo_27 : decode cX4_areSo 27 = .ok (.getfield 18, 3) := by decide +kernel
theorem dX4_areSo_30 : decode cX4_areSo 30 = .ok (.iload_n 2, 1) := by decide +kernel
theorem dX4_areSo_31 : decode cX4_areSo 31 = .ok (.iaload, 1) := by decide +kernel
theorem dX4_areSo_32 : decode cX4_areSo 32 = .ok (.if_icmp .eq 5, 3) := by decide +kernel
theorem dX4_areSo_35 : decode cX4_areSo 35 = .ok (.iconst 0, 1) := by decide +kernel
theorem dX4_areSo_36 : decode cX4_areSo 36 = .ok (.ireturn, 1) := by decide +kernel
theorem dX4_areSo_37 : decode cX4_areSo 37 = .ok (.iinc 2 1, 3) := by decide +kernel
theorem dX4_areSo_40 : decode cX4_areSo 40 = .ok (.goto (-38), 3) := by decide +kernel
theorem dX4_areSo_43 : decode cX4_areSo 43 = .ok (.iconst 1, 1) := by decide +kernel
theorem dX4_areSo_44 : decode cX4_areSo 44 = .ok (.ireturn, 1) := by decide +kernel
theorem dX5_houseBehind_0 : decode cX5_houseBehind 0 = .ok (.aload_n 0, 1) := by decide +kernel
theorem dX5_houseBehind_1 : decode cX5_houseBehind 1 = .ok (.getfield 15, 3) := by decide +kernel
theorem dX5_houseBehind_4 : decode cX5_houseBehind 4 = .ok (.iload_n 2, 1) := by decide +kernel
theorem dX5_houseBehind_5 : decode cX5_houseBehind 5 = .ok (.aload_n 0, 1) := by decide +kernel
theorem dX5_houseBehind_6 : decode cX5_houseBehind 6 = .ok (.getfield 30, 3) := by decide +kernel
theorem dX5_houseBehind_9 : decode cX5_houseBehind 9 = .ok (.invokestatic 34, 3) := by decide +kernel
theorem dX5_houseBehind_12 : decode cX5_houseBehind 12 = .ok (.bipush 9, 2) := by decide +kernel
theorem dX5_houseBehind_14 : decode cX5_houseBehind 14 = .ok (.imul, 1) := by decide +kernel
theorem dX5_houseBehind_15 : decode cX5_houseBehind 15 = .ok (.iload_n 1, 1) := by decide +kernel
theorem dX5_houseBehind_16 : decode cX5_houseBehind 16 = .ok (.iadd, 1) := by decide +kernel
theorem dX5_houseBehind_17 : decode cX5_houseBehind 17 = .ok (.iaload, 1) := by decide +kernel
theorem dX5_houseBehind_18 : decode cX5_houseBehind 18 = .ok (.ireturn, 1) := by decide +kernel
theorem dX5_run_0 : decode cX5_run 0 = .ok (.aload_n 0, 1) := by decide +kernel
theorem dX5_run_1 : decode cX5_run 1 = .ok (.getfield 40, 3) := by decide +kernel
theorem dX5_run_4 : decode cX5_run 4 = .ok (.ifCond .eq 4, 3) := by decide +kernel
theorem dX5_run_7 : decode cX5_run 7 = .ok (.return_, 1) := by decide +kernel
theorem dX5_run_8 : decode cX5_run 8 = .ok (.aload_n 0, 1) := by decide +kernel
theorem dX5_run_9 : decode cX5_run 9 = .ok (.iconst 1, 1) := by decide +kernel
theorem dX5_run_10 : decode cX5_run 10 = .ok (.putfield 40, 3) := by decide +kernel
theorem dX5_run_13 : decode cX5_run 13 = .ok (.aload_n 0, 1) := by decide +kernel
theorem dX5_run_14 : decode cX5_run 14 = .ok (.getfield 22, 3) := by decide +kernel
theorem dX5_run_17 : decode cX5_run 17 = .ok (.getfield 44, 3) := by decide +kernel
theorem dX5_run_20 : decode cX5_run 20 = .ok (.iconst 0, 1) := by decide +kernel
theorem dX5_run_21 : decode cX5_run 21 = .ok (.aload_n 0, 1) := by decide +kernel
theorem dX5_run_22 : decode cX5_run 22 = .ok (.getfield 9, 3) := by decide +kernel
theorem dX5_run_25 : decode cX5_run 25 = .ok (.iconst 0, 1) := by decide +kernel
theorem dX5_run_26 : decode cX5_run 26 = .ok (.bipush 9, 2) := by decide +kernel
theorem dX5_run_28 : decode cX5_run 28 = .ok (.invokestatic 49, 3) := by decide +kernel
theorem dX5_run_31 : decode cX5_run 31 = .ok (.aload_n 0, 1) := by decide +kernel
theorem dX5_run_32 : decode cX5_run 32 = .ok (.bipush (-9), 2) := by decide +kernel
theorem dX5_run_34 : decode cX5_run 34 = .ok (.putfield 55, 3) := by decide +kernel
theorem dX5_run_37 : decode cX5_run 37 = .ok (.aload_n 0, 1) := by decide +kernel
theorem dX5_run_38 : decode cX5_run 38 = .ok (.iconst 0, 1) := by decide +kernel
theorem dX5_run_39 : decode cX5_run 39 = .ok (.invokevirtual 58, 3) := by decide +kernel
theorem dX5_run_42 : decode cX5_run 42 = .ok (.iconst 1, 1) := by decide +kernel
theorem dX5_run_43 : decode cX5_run 43 = .ok (.istore_n 1, 1) := by decide +kernel
theorem dX5_run_44 : decode cX5_run 44 = .ok (.iload_n 1, 1) := by decide +kernel
theorem dX5_run_45 : decode cX5_run 45 = .ok (.bipush 50, 2) := by decide +kernel
theorem dX5_run_47 : decode cX5_run 47 = .ok (.if_icmp .gt 85, 3) := by decide +kernel
theorem dX5_run_50 : decode cX5_run 50 = .ok (.aload_n 0, 1) := by decide +kernel
theorem dX5_run_51 : decode cX5_run 51 = .ok (.getfield 55, 3) := by decide +kernel
theorem dX5_run_54 : decode cX5_run 54 = .ok (.bipush (-9), 2) := by decide +kernel
theorem dX5_run_56 : decode cX5_run 56 = .ok (.if_icmp .ne 76, 3) := by decide +kernel
theorem dX5_run_59 : decode cX5_run 59 = .ok (.iconst 0, 1) := by decide +kernel
theorem dX5_run_60 : decode cX5_run 60 = .ok (.istore_n 2, 1) := by decide +kernel
theorem dX5_run_61 : decode cX5_run 61 = .ok (.iconst 0, 1) := by decide +kernel
theorem dX5_run_62 : decode cX5_run 62 = .ok (.istore_n 3, 1) := by decide +kernel
theorem dX5_run_63 : decode cX5_run 63 = .ok (.iload_n 3, 1) := by decide +kernel
theorem dX5_run_64 : decode cX5_run 64 = .ok (.aload_n 0, 1) := by decide +kernel
theorem dX5_run_65 : decode cX5_run 65 = .ok (.getfield 22, 3) := by decide +kernel
theorem dX5_run_68 : decode cX5_run 68 = .ok (.getfield 62, 3) := by decide +kernel
theorem dX5_run_71 : decode cX5_run 71 = .ok (.if_icmp .ge 36, 3) := by decide +kernel
theorem dX5_run_74 : decode cX5_run 74 = .ok (.iload_n 2, 1) := by decide +kernel
theorem dX5_run_75 : decode cX5_run 75 = .ok (.aload_n 0, 1) := by decide +kernel
theorem dX5_run_76 : decode cX5_run 76 = .ok (.getfield 9, 3) := by decide +kernel
theorem dX5_run_79 : decode cX5_run 79 = .ok (.iload_n 3, 1) := by decide +kernel
theorem dX5_run_80 : decode cX5_run 80 = .ok (.iaload, 1) := by decide +kernel
theorem dX5_run_81 : decode cX5_run 81 = .ok (.bipush (-9), 2) := by decide +kernel
theorem dX5_run_83 : decode cX5_run 83 = .ok (.if_icmp .eq 15, 3) := by decide +kernel
theorem dX5_run_86 : decode cX5_run 86 = .ok (.aload_n 0, 1) := by decide +kernel
theorem dX5_run_87 : decode cX5_run 87 = .ok (.iload_n 3, 1) := by decide +kernel
theorem dX5_run_88 : decode cX5_run 88 = .ok (.invokevirtual 65, 3) := by decide +kernel
theorem dX5_run_91 : decode cX5_run 91 = .ok (.ifCond .eq 7, 3) := by decide +kernel
theorem dX5_run_94 : decode cX5_run 94 = .ok (.iconst 1, 1) := by decide +kernel
theorem dX5_run_95 : decode cX5_run 95 = .ok (.goto 4, 3) := by decide +kernel
theorem dX5_run_98 : decode cX5_run 98 = .ok (.iconst 0, 1) := by decide +kernel
theorem dX5_run_99 : decode cX5_run 99 = .ok (.ior, 1) := by decide +kernel
theorem dX5_run_100 : decode cX5_run 100 = .ok (.istore_n 2, 1) := by decide +kernel
theorem dX5_run_101 : decode cX5_run 101 = .ok (.iinc 3 1, 3) := by decide +kernel
theorem dX5_run_104 : decode cX5_run 104 = .ok (.goto (-41), 3) := by decide +kernel
theorem dX5_run_107 : decode cX5_run 107 = .ok (.iload_n 2, 1) := by decide +kernel
theorem dX5_run_108 : decode cX5_run 108 = .ok (.ifCond .eq 11, 3) := by decide +kernel
theorem dX5_run_111 : decode cX5_run 111 = .ok (.aload_n 0, 1) := by decide +kernel
theorem dX5_run_112 : decode cX5_run 112 = .ok (.iload_n 1, 1) := by decide +kernel
theorem dX5_run_113 : decode cX5_run 113 = .ok (.invokevirtual 58, 3) := by decide +kernel
theorem dX5_run_116 : decode cX5_run 116 = .ok (.goto 10, 3) := by decide +kernel
theorem dX5_run_119 : decode cX5_run 119 = .ok (.aload_n 0, 1) := by decide +kernel
theorem dX5_run_120 : decode cX5_run 120 = .ok (.iload_n 1, 1) := by decide +kernel
theorem dX5_run_121 : decode cX5_run 121 = .ok (.iconst 1, 1) := by decide +kernel
theorem dX5_run_122 : decode cX5_run 122 = .ok (.isub, 1) := by decide +kernel
theorem dX5_run_123 : decode cX5_run 123 = .ok (.putfield 55, 3) := by decide +kernel
theorem dX5_run_126 : decode cX5_run 126 = .ok (.iinc 1 1, 3) := by decide +kernel
theorem dX5_run_129 : decode cX5_run 129 = .ok (.goto (-85), 3) := by decide +kernel
theorem dX5_run_132 : decode cX5_run 132 = .ok (.return_, 1) := by decide +kernel
theorem dX5_keep_0 : decode cX5_keep 0 = .ok (.aload_n 0, 1) := by decide +kernel
theorem dX5_keep_1 : decode cX5_keep 1 = .ok (.getfield 9, 3) := by decide +kernel
theorem dX5_keep_4 : decode cX5_keep 4 = .ok (.iconst 0, 1) := by decide +kernel
theorem dX5_keep_5 : decode cX5_keep 5 = .ok (.aload_n 0, 1) := by decide +kernel
theorem dX5_keep_6 : decode cX5_keep 6 = .ok (.getfield 15, 3) := by decide +kernel
theorem dX5_keep_9 : decode cX5_keep 9 = .ok (.iload_n 1, 1) := by decide +kernel
theorem dX5_keep_10 : decode cX5_keep 10 = .ok (.bipush 9, 2) := by decide +kernel
theorem dX5_keep_12 : decode cX5_keep 12 = .ok (.imul, 1) := by decide +kernel
theorem dX5_keep_13 : decode cX5_keep 13 = .ok (.bipush 9, 2) := by decide +kernel
theorem dX5_keep_15 : decode cX5_keep 15 = .ok (.invokestatic 49, 3) := by decide +kernel
theorem dX5_keep_18 : decode cX5_keep 18 = .ok (.aload_n 0, 1) := by decide +kernel
theorem dX5_keep_19 : decode cX5_keep 19 = .ok (.iload_n 1, 1) := by decide +kernel
theorem dX5_keep_20 : decode cX5_keep 20 = .ok (.putfield 30, 3) := by decide +kernel
theorem dX5_keep_23 : decode cX5_keep 23 = .ok (.return_, 1) := by decide +kernel
theorem dX5_moves_0 : decode cX5_moves 0 = .ok (.aload_n 0, 1) := by decide +kernel
theorem dX5_moves_1 : decode cX5_moves 1 = .ok (.getfield 9, 3) := by decide +kernel
theorem dX5_moves_4 : decode cX5_moves 4 = .ok (.iload_n 1, 1) := by decide +kernel
theorem dX5_moves_5 : decode cX5_moves 5 = .ok (.iaload, 1) := by decide +kernel
theorem dX5_moves_6 : decode cX5_moves 6 = .ok (.istore_n 2, 1) := by decide +kernel
theorem dX5_moves_7 : decode cX5_moves 7 = .ok (.iload_n 2, 1) := by decide +kernel
theorem dX5_moves_8 : decode cX5_moves 8 = .ok (.istore_n 3, 1) := by decide +kernel
theorem dX5_moves_9 : decode cX5_moves 9 = .ok (.aload_n 0, 1) := by decide +kernel
theorem dX5_moves_10 : decode cX5_moves 10 = .ok (.iload_n 1, 1) := by decide +kernel
theorem dX5_moves_11 : decode cX5_moves 11 = .ok (.invokevirtual 69, 3) := by decide +kernel
theorem dX5_moves_14 : decode cX5_moves 14 = .ok (.istore 4, 2) := by decide +kernel
theorem dX5_moves_16 : decode cX5_moves 16 = .ok (.iconst 0, 1) := by decide +kernel
theorem dX5_moves_17 : decode cX5_moves 17 = .ok (.istore 5, 2) := by decide +kernel
theorem dX5_moves_19 : decode cX5_moves 19 = .ok (.iload 5, 2) := by decide +kernel
theorem dX5_moves_21 : decode cX5_moves 21 = .ok (.aload_n 0, 1) := by decide +kernel
theorem dX5_moves_22 : decode cX5_moves 22 = .ok (.getfield 18, 3) := by decide +kernel
theorem dX5_moves_25 : decode cX5_moves 25 = .ok (.getfield 73, 3) := by decide +kernel
theorem dX5_moves_28 : decode cX5_moves 28 = .ok (.if_icmp .ge 58, 3) := by decide +kernel
theorem dX5_moves_31 : decode cX5_moves 31 = .ok (.aload_n 0, 1) := by decide +kernel
theorem dX5_moves_32 : decode cX5_moves 32 = .ok (.getfield 9, 3) := by decide +kernel
theorem dX5_moves_35 : decode cX5_moves 35 = .ok (.iload_n 1, 1) := by decide +kernel
theorem dX5_moves_36 : decode cX5_moves 36 = .ok (.iload 5, 2) := by decide +kernel
theorem dX5_moves_38 : decode cX5_moves 38 = .ok (.iastore, 1) := by decide +kernel
theorem dX5_moves_39 : decode cX5_moves 39 = .ok (.iload 5, 2) := by decide +kernel
theorem dX5_moves_41 : decode cX5_moves 41 = .ok (.iload_n 2, 1) := by decide +kernel
theorem dX5_moves_42 : decode cX5_moves 42 = .ok (.if_icmp .eq 38, 3) := by decide +kernel
theorem dX5_moves_45 : decode cX5_moves 45 = .ok (.aload_n 0, 1) := by decide +kernel
theorem dX5_moves_46 : decode cX5_moves 46 = .ok (.getfield 22, 3) := by decide +kernel
theorem dX5_moves_49 : decode cX5_moves 49 = .ok (.aload_n 0, 1) := by decide +kernel
theorem dX5_moves_50 : decode cX5_moves 50 = .ok (.getfield 9, 3) := by decide +kernel
theorem dX5_moves_53 : decode cX5_moves 53 = .ok (.invokevirtual 76, 3) := by decide +kernel
theorem dX5_moves_56 : decode cX5_moves 56 = .ok (.ifCond .eq 24, 3) := by decide +kernel
theorem dX5_moves_59 : decode cX5_moves 59 = .ok (.aload_n 0, 1) := by decide +kernel
theorem dX5_moves_60 : decode cX5_moves 60 = .ok (.iload_n 1, 1) := by decide +kernel
theorem dX5_moves_61 : decode cX5_moves 61 = .ok (.invokevirtual 69, 3) := by decide +kernel
theorem dX5_moves_64 : decode cX5_moves 64 = .ok (.istore 6, 2) := by decide +kernel
theorem dX5_moves_66 : decode cX5_moves 66 = .ok (.iload 6, 2) := by decide +kernel
theorem dX5_moves_68 : decode cX5_moves 68 = .ok (.iload 4, 2) := by decide +kernel
theorem dX5_moves_70 : decode cX5_moves 70 = .ok (.if_icmp .ge 10, 3) := by decide +kernel
theorem dX5_moves_73 : decode cX5_moves 73 = .ok (.iload 6, 2) := by decide +kernel
theorem dX5_moves_75 : decode cX5_moves 75 = .ok (.istore 4, 2) := by decide +kernel
theorem dX5_moves_77 : decode cX5_moves 77 = .ok (.iload 5, 2) := by decide +kernel
theorem dX5_moves_79 : decode cX5_moves 79 = .ok (.istore_n 3, 1) := by decide +kernel
theorem dX5_moves_80 : decode cX5_moves 80 = .ok (.iinc 5 1, 3) := by decide +kernel
theorem dX5_moves_83 : decode cX5_moves 83 = .ok (.goto (-64), 3) := by decide +kernel
theorem dX5_moves_86 : decode cX5_moves 86 = .ok (.aload_n 0, 1) := by decide +kernel
theorem dX5_moves_87 : decode cX5_moves 87 = .ok (.getfield 9, 3) := by decide +kernel
theorem dX5_moves_90 : decode cX5_moves 90 = .ok (.iload_n 1, 1) := by decide +kernel
theorem dX5_moves_91 : decode cX5_moves 91 = .ok (.iload_n 3, 1) := by decide +kernel
theorem dX5_moves_92 : decode cX5_moves 92 = .ok (.iastore, 1) := by decide +kernel
theorem dX5_moves_93 : decode cX5_moves 93 = .ok (.iload_n 3, 1) := by decide +kernel
theorem dX5_moves_94 : decode cX5_moves 94 = .ok (.iload_n 2, 1) := by decide +kernel
theorem dX5_moves_95 : decode cX5_moves 95 = .ok (.if_icmp .eq 7, 3) := by decide +kernel
theorem dX5_moves_98 : decode cX5_moves 98 = .ok (.iconst 1, 1) := by decide +kernel
theorem dX5_moves_99 : decode cX5_moves 99 = .ok (.goto 4, 3) := by decide +kernel
theorem dX5_moves_102 : decode cX5_moves 102 = .ok (.iconst 0, 1) := by decide +kernel
theorem dX5_moves_103 : decode cX5_moves 103 = .ok (.ireturn, 1) := by decide +kernel
theorem dX5_howDeep_0 : decode cX5_howDeep 0 = .ok (.aload_n 0, 1) := by decide +kernel
theorem dX5_howDeep_1 : decode cX5_howDeep 1 = .ok (.getfield 26, 3) := by decide +kernel
theorem dX5_howDeep_4 : decode cX5_howDeep 4 = .ok (.aload_n 0, 1) := by decide +kernel
theorem dX5_howDeep_5 : decode cX5_howDeep 5 = .ok (.getfield 9, 3) := by decide +kernel
theorem dX5_howDeep_8 : decode cX5_howDeep 8 = .ok (.invokevirtual 80, 3) := by decide +kernel
theorem dX5_howDeep_11 : decode cX5_howDeep 11 = .ok (.iconst 0, 1) := by decide +kernel
theorem dX5_howDeep_12 : decode cX5_howDeep 12 = .ok (.istore_n 2, 1) := by decide +kernel
theorem dX5_howDeep_13 : decode cX5_howDeep 13 = .ok (.iconst 0, 1) := by decide +kernel
theorem dX5_howDeep_14 : decode cX5_howDeep 14 = .ok (.istore_n 3, 1) := by decide +kernel
theorem dX5_howDeep_15 : decode cX5_howDeep 15 = .ok (.iload_n 3, 1) := by decide +kernel
theorem dX5_howDeep_16 : decode cX5_howDeep 16 = .ok (.aload_n 0, 1) := by decide +kernel
theorem dX5_howDeep_17 : decode cX5_howDeep 17 = .ok (.getfield 22, 3) := by decide +kernel
theorem dX5_howDeep_20 : decode cX5_howDeep 20 = .ok (.getfield 86, 3) := by decide +kernel
theorem dX5_howDeep_23 : decode cX5_howDeep 23 = .ok (.iload_n 1, 1) := by decide +kernel
theorem dX5_howDeep_24 : decode cX5_howDeep 24 = .ok (.iaload, 1) := by decide +kernel
theorem dX5_howDeep_25 : decode cX5_howDeep 25 = .ok (.if_icmp .gt 58, 3) := by decide +kernel
theorem dX5_howDeep_28 : decode cX5_howDeep 28 = .ok (.aload_n 0, 1) := by decide +kernel
theorem dX5_howDeep_29 : decode cX5_howDeep 29 = .ok (.getfield 26, 3) := by decide +kernel
theorem dX5_howDeep_32 : decode cX5_howDeep 32 = .ok (.aload_n 0, 1) := by decide +kernel
theorem dX5_howDeep_33 : decode cX5_howDeep 33 = .ok (.getfield 9, 3) := by decide +kernel
theorem dX5_howDeep_36 : decode cX5_howDeep 36 = .ok (.iload_n 3, 1) := by decide +kernel
theorem dX5_howDeep_37 : decode cX5_howDeep 37 = .ok (.iconst 0, 1) := by decide +kernel
theorem dX5_howDeep_38 : decode cX5_howDeep 38 = .ok (.invokevirtual 89, 3) := by decide +kernel
theorem dX5_howDeep_41 : decode cX5_howDeep 41 = .ok (.iload_n 2, 1) := by decide +kernel
theorem dX5_howDeep_42 : decode cX5_howDeep 42 = .ok (.iload_n 3, 1) := by decide +kernel
theorem dX5_howDeep_43 : decode cX5_howDeep 43 = .ok (.aload_n 0, 1) := by decide +kernel
theorem dX5_howDeep_44 : decode cX5_howDeep 44 = .ok (.getfield 22, 3) := by decide +kernel
theorem dX5_howDeep_47 : decode cX5_howDeep 47 = .ok (.getfield 93, 3) := by decide +kernel
theorem dX5_howDeep_50 : decode cX5_howDeep 50 = .ok (.iload_n 1, 1) := by decide +kernel
theorem dX5_howDeep_51 : decode cX5_howDeep 51 = .ok (.iaload, 1) := by decide +kernel
theorem dX5_howDeep_52 : decode cX5_howDeep 52 = .ok (.if_icmp .lt 22, 3) := by decide +kernel
theorem dX5_howDeep_55 : decode cX5_howDeep 55 = .ok (.aload_n 0, 1) := by decide +kernel
theorem dX5_howDeep_56 : decode cX5_howDeep 56 = .ok (.getfield 26, 3) := by decide +kernel
theorem dX5_howDeep_59 : decode cX5_howDeep 59 = .ok (.aload_n 0, 1) := by decide +kernel
theorem dX5_howDeep_60 : decode cX5_howDeep 60 = .ok (.getfield 9, 3) := by decide +kernel
theorem dX5_howDeep_63 : decode cX5_howDeep 63 = .ok (.iload_n 1, 1) := by decide +kernel
theorem dX5_howDeep_64 : decode cX5_howDeep 64 = .ok (.iaload, 1) := by decide +kernel
theorem dX5_howDeep_65 : decode cX5_howDeep 65 = .ok (.iload_n 3, 1) := by decide +kernel
theorem dX5_howDeep_66 : decode cX5_howDeep 66 = .ok (.iconst 1, 1) := by decide +kernel
theorem dX5_howDeep_67 : decode cX5_howDeep 67 = .ok (.iadd, 1) := by decide +kernel
theorem dX5_howDeep_68 : decode cX5_howDeep 68 = .ok (.invokevirtual 96, 3) := by decide +kernel
theorem dX5_howDeep_71 : decode cX5_howDeep 71 = .ok (.goto 4, 3) := by decide +kernel
theorem dX5_howDeep_74 : decode cX5_howDeep 74 = .ok (.iconst 0, 1) := by decide +kernel
theorem dX5_howDeep_75 : decode cX5_howDeep 75 = .ok (.iadd, 1) := by decide +kernel
theorem dX5_howDeep_76 : decode cX5_howDeep 76 = .ok (.istore_n 2, 1) := by decide +kernel
theorem dX5_howDeep_77 : decode cX5_howDeep 77 = .ok (.iinc 3 1, 3) := by decide +kernel
theorem dX5_howDeep_80 : decode cX5_howDeep 80 = .ok (.goto (-65), 3) := by decide +kernel
theorem dX5_howDeep_83 : decode cX5_howDeep 83 = .ok (.iload_n 2, 1) := by decide +kernel
theorem dX5_howDeep_84 : decode cX5_howDeep 84 = .ok (.ireturn, 1) := by decide +kernel
theorem dX6_layRow_0 : decode cX6_layRow 0 = .ok (.aload_n 0, 1) := by decide +kernel
theorem dX6_layRow_1 : decode cX6_layRow 1 = .ok (.iload_n 1, 1) := by decide +kernel
theorem dX6_layRow_2 : decode cX6_layRow 2 = .ok (.putfield 15, 3) := by decide +kernel
theorem dX6_layRow_5 : decode cX6_layRow 5 = .ok (.aload_n 0, 1) := by decide +kernel
theorem dX6_layRow_6 : decode cX6_layRow 6 = .ok (.iload_n 2, 1) := by decide +kernel
theorem dX6_layRow_7 : decode cX6_layRow 7 = .ok (.putfield 19, 3) := by decide +kernel
theorem dX6_layRow_10 : decode cX6_layRow 10 = .ok (.aload_n 0, 1) := by decide +kernel
theorem dX6_layRow_11 : decode cX6_layRow 11 = .ok (.iconst 1, 1) := by decide +kernel
theorem dX6_layRow_12 : decode cX6_layRow 12 = .ok (.putfield 22, 3) := by decide +kernel
theorem dX6_layRow_15 : decode cX6_layRow 15 = .ok (.iconst 0, 1) := by decide +kernel
theorem dX6_layRow_16 : decode cX6_layRow 16 = .ok (.istore_n 3, 1) := by decide +kernel
theorem dX6_layRow_17 : decode cX6_layRow 17 = .ok (.iload_n 3, 1) := by decide +kernel
theorem dX6_layRow_18 : decode cX6_layRow 18 = .ok (.bipush 60, 2) := by decide +kernel
theorem dX6_layRow_20 : decode cX6_layRow 20 = .ok (.if_icmp .ge 16, 3) := by decide +kernel
theorem dX6_layRow_23 : decode cX6_layRow 23 = .ok (.aload_n 0, 1) := by decide +kernel
theorem dX6_layRow_24 : decode cX6_layRow 24 = .ok (.getfield 9, 3) := by decide +kernel
theorem dX6_layRow_27 : decode cX6_layRow 27 = .ok (.iload_n 3, 1) := by decide +kernel
theorem dX6_layRow_28 : decode cX6_layRow 28 = .ok (.iconst 0, 1) := by decide +kernel
theorem dX6_layRow_29 : decode cX6_layRow 29 = .ok (.iastore, 1) := by decide +kernel
theorem dX6_layRow_30 : decode cX6_layRow 30 = .ok (.iinc 3 1, 3) := by decide +kernel
theorem dX6_layRow_33 : decode cX6_layRow 33 = .ok (.goto (-16), 3) := by decide +kernel
theorem dX6_layRow_36 : decode cX6_layRow 36 = .ok (.return_, 1) := by decide +kernel
theorem dX6_isOfAnotherLane_0 : decode cX6_isOfAnotherLane 0 = .ok (.aload_n 0, 1) := by decide +kernel
theorem dX6_isOfAnotherLane_1 : decode cX6_isOfAnotherLane 1 = .ok (.getfield 22, 3) := by decide +kernel
theorem dX6_isOfAnotherLane_4 : decode cX6_isOfAnotherLane 4 = .ok (.ifCond .eq 15, 3) := by decide +kernel
theorem dX6_isOfAnotherLane_7 : decode cX6_isOfAnotherLane 7 = .ok (.aload_n 0, 1) := by decide +kernel
theorem dX6_isOfAnotherLane_8 : decode cX6_isOfAnotherLane 8 = .ok (.getfield 15, 3) := by decide +kernel
theorem dX6_isOfAnotherLane_11 : decode cX6_isOfAnotherLane 11 = .ok (.iload_n 1, 1) := by decide +kernel
theorem dX6_isOfAnotherLane_12 : decode cX6_isOfAnotherLane 12 = .ok (.if_icmp .eq 7, 3) := by decide +kernel
theorem dX6_isOfAnotherLane_15 : decode cX6_isOfAnotherLane 15 = .ok (.iconst 1, 1) := by decide +kernel
theorem dX6_isOfAnotherLane_16 : decode cX6_isOfAnotherLane 16 = .ok (.goto 4, 3) := by decide +kernel
theorem dX6_isOfAnotherLane_19 : decode cX6_isOfAnotherLane 19 = .ok (.iconst 0, 1) := by decide +kernel
theorem dX6_isOfAnotherLane_20 : decode cX6_isOfAnotherLane 20 = .ok (.ireturn, 1) := by decide +kernel
theorem dX6_hasCells_0 : decode cX6_hasCells 0 = .ok (.iload_n 1, 1) := by decide +kernel
theorem dX6_hasCells_1 : decode cX6_hasCells 1 = .ok (.ifCond .lt 29, 3) := by decide +kernel
theorem dX6_hasCells_4 : decode cX6_hasCells 4 = .ok (.iload_n 1, 1) := by decide +kernel
theorem dX6_hasCells_5 : decode cX6_hasCells 5 = .ok (.aload_n 0, 1) := by decide +kernel
theorem dX6_hasCells_6 : decode cX6_hasCells 6 = .ok (.getfield 19, 3) := by decide +kernel
theorem dX6_hasCells_9 : decode cX6_hasCells 9 = .ok (.if_icmp .gt 21, 3) := by decide +kernel
theorem dX6_hasCells_12 : decode cX6_hasCells 12 = .ok (.iload_n 2, 1) := by decide +kernel
theorem dX6_hasCells_13 : decode cX6_hasCells 13 = .ok (.ifCond .lt 17, 3) := by decide +kernel
theorem dX6_hasCells_16 : decode cX6_hasCells 16 = .ok (.iload_n 2, 1) := by decide +kernel
theorem dX6_hasCells_17 : decode cX6_hasCells 17 = .ok (.aload_n 0, 1) := by decide +kernel
theorem dX6_hasCells_18 : decode cX6_hasCells 18 = .ok (.getfield 19, 3) := by decide +kernel
theorem dX6_hasCells_21 : decode cX6_hasCells 21 = .ok (.iload_n 1, 1) := by decide +kernel
theorem dX6_hasCells_22 : decode cX6_hasCells 22 = .ok (.isub, 1) := by decide +kernel
theorem dX6_hasCells_23 : decode cX6_hasCells 23 = .ok (.if_icmp .gt 7, 3) := by decide +kernel
theorem dX6_hasCells_26 : decode cX6_hasCells 26 = .ok (.iconst 1, 1) := by decide +kernel
theorem dX6_hasCells_27 : decode cX6_hasCells 27 = .ok (.goto 4, 3) := by decide +kernel
theorem dX6_hasCells_30 : decode cX6_hasCells 30 = .ok (.iconst 0, 1) := by decide +kernel
theorem dX6_hasCells_31 : decode cX6_hasCells 31 = .ok (.ireturn, 1) := by decide +kernel
theorem dX6_cut_0 : decode cX6_cut 0 = .ok (.aload_n 0, 1) := by decide +kernel
theorem dX6_cut_1 : decode cX6_cut 1 = .ok (.getfield 15, 3) := by decide +kernel
theorem dX6_cut_4 : decode cX6_cut 4 = .ok (.lookupswitch 34 #[(0, 28), (1, 31)], 28) := by decide +kernel
theorem dX6_cut_32 : decode cX6_cut 32 = .ok (.iload_n 1, 1) := by decide +kernel
theorem dX6_cut_33 : decode cX6_cut 33 = .ok (.i2b, 1) := by decide +kernel
theorem dX6_cut_34 : decode cX6_cut 34 = .ok (.ireturn, 1) := by decide +kernel
theorem dX6_cut_35 : decode cX6_cut 35 = .ok (.iload_n 1, 1) := by decide +kernel
theorem dX6_cut_36 : decode cX6_cut 36 = .ok (.i2s, 1) := by decide +kernel
theorem dX6_cut_37 : decode cX6_cut 37 = .ok (.ireturn, 1) := by decide +kernel
theorem dX6_cut_38 : decode cX6_cut 38 = .ok (.iload_n 1, 1) := by decide +kernel
theorem dX6_cut_39 : decode cX6_cut 39 = .ok (.ireturn, 1) := by decide +kernel
theorem dX7_has_0 : decode cX7_has 0 = .ok (.iload_n 1, 1) := by decide +kernel
theorem dX7_has_1 : decode cX7_has 1 = .ok (.ifCond .lt 15, 3) := by decide +kernel
theorem dX7_has_4 : decode cX7_has 4 = .ok (.iload_n 1, 1) := by decide +kernel
theorem dX7_has_5 : decode cX7_has 5 = .ok (.aload_n 0, 1) := by decide +kernel
theorem dX7_has_6 : decode cX7_has 6 = .ok (.getfield 18, 3) := by decide +kernel
theorem dX7_has_9 : decode cX7_has 9 = .ok (.if_icmp .ge 7, 3) := by decide +kernel
theorem dX7_has_12 : decode cX7_has 12 = .ok (.iconst 1, 1) := by decide +kernel
theorem dX7_has_13 : decode cX7_has 13 = .ok (.goto 4, 3) := by decide +kernel
theorem dX7_has_16 : decode cX7_has 16 = .ok (.iconst 0, 1) := by decide +kernel
theorem dX7_has_17 : decode cX7_has 17 = .ok (.ireturn, 1) := by decide +kernel
theorem dX7_build_0 : decode cX7_build 0 = .ok (.aload_n 0, 1) := by decide +kernel
theorem dX7_build_1 : decode cX7_build 1 = .ok (.aload_n 1, 1) := by decide +kernel
theorem dX7_build_2 : decode cX7_build 2 = .ok (.getfield 22, 3) := by decide +kernel
theorem dX7_build_5 : decode cX7_build 5 = .ok (.iload_n 2, 1) := by decide +kernel
theorem dX7_build_6 : decode cX7_build 6 = .ok (.iconst 1, 1) := by decide +kernel
theorem dX7_build_7 : decode cX7_build 7 = .ok (.iadd, 1) := by decide +kernel
theorem dX7_build_8 : decode cX7_build 8 = .ok (.iaload, 1) := by decide +kernel
theorem dX7_build_9 : decode cX7_build 9 = .ok (.bipush 48, 2) := by decide +kernel
theorem dX7_build_11 : decode cX7_build 11 = .ok (.isub, 1) := by decide +kernel
theorem dX7_build_12 : decode cX7_build 12 = .ok (.putfield 28, 3) := by decide +kernel
theorem dX7_build_15 : decode cX7_build 15 = .ok (.aload_n 0, 1) := by decide +kernel
theorem dX7_build_16 : decode cX7_build 16 = .ok (.iload_n 3, 1) := by decide +kernel
theorem dX7_build_17 : decode cX7_build 17 = .ok (.iconst 2, 1) := by decide +kernel
theorem dX7_build_18 : decode cX7_build 18 = .ok (.isub, 1) := by decide +kernel
theorem dX7_build_19 : decode cX7_build 19 = .ok (.bipush 6, 2) := by decide +kernel
theorem dX7_build_21 : decode cX7_build 21 = .ok (.idiv, 1) := by decide +kernel
theorem dX7_build_22 : decode cX7_build 22 = .ok (.putfield 18, 3) := by decide +kernel
theorem dX7_build_25 : decode cX7_build 25 = .ok (.iconst 0, 1) := by decide +kernel
theorem dX7_build_26 : decode cX7_build 26 = .ok (.istore 4, 2) := by decide +kernel
theorem dX7_build_28 : decode cX7_build 28 = .ok (.iload 4, 2) := by decide +kernel
theorem dX7_build_30 : decode cX7_build 30 = .ok (.aload_n 0, 1) := by decide +kernel
theorem dX7_build_31 : decode cX7_build 31 = .ok (.getfield 18, 3) := by decide +kernel
theorem dX7_build_34 : decode cX7_build 34 = .ok (.if_icmp .ge 114, 3) := by decide +kernel
theorem dX7_build_37 : decode cX7_build 37 = .ok (.iload_n 2, 1) := by decide +kernel
theorem dX7_build_38 : decode cX7_build 38 = .ok (.iconst 2, 1) := by decide +kernel
theorem dX7_build_39 : decode cX7_build 39 = .ok (.iadd, 1) := by decide +kernel
theorem dX7_build_40 : decode cX7_build 40 = .ok (.iload 4, 2) := by decide +kernel
theorem dX7_build_42 : decode cX7_build 42 = .ok (.bipush 6, 2) := by decide +kernel
theorem dX7_build_44 : decode cX7_build 44 = .ok (.imul, 1) := by decide +kernel
theorem dX7_build_45 : decode cX7_build 45 = .ok (.iadd, 1) := by decide +kernel
theorem dX7_build_46 : decode cX7_build 46 = .ok (.istore 5, 2) := by decide +kernel
theorem dX7_build_48 : decode cX7_build 48 = .ok (.aload_n 0, 1) := by decide +kernel
theorem dX7_build_49 : decode cX7_build 49 = .ok (.getfield 11, 3) := by decide +kernel
theorem dX7_build_52 : decode cX7_build 52 = .ok (.iload 4, 2) := by decide +kernel
theorem dX7_build_54 : decode cX7_build 54 = .ok (.aaload, 1) := by decide +kernel
theorem dX7_build_55 : decode cX7_build 55 = .ok (.astore 6, 2) := by decide +kernel
theorem dX7_build_57 : decode cX7_build 57 = .ok (.aload 6, 2) := by decide +kernel
theorem dX7_build_59 : decode cX7_build 59 = .ok (.aload_n 1, 1) := by decide +kernel
theorem dX7_build_60 : decode cX7_build 60 = .ok (.getfield 22, 3) := by decide +kernel
theorem dX7_build_63 : decode cX7_build 63 = .ok (.iload 5, 2) := by decide +kernel
theorem dX7_build_65 : decode cX7_build 65 = .ok (.iconst 1, 1) := by decide +kernel
theorem dX7_build_66 : decode cX7_build 66 = .ok (.iadd, 1) := by decide +kernel
theorem dX7_build_67 : decode cX7_build 67 = .ok (.iaload, 1) := by decide +kernel
theorem dX7_build_68 : decode cX7_build 68 = .ok (.invokestatic 31, 3) := by decide +kernel
theorem dX7_build_71 : decode cX7_build 71 = .ok (.putfield 35, 3) := by decide +kernel
theorem dX7_build_74 : decode cX7_build 74 = .ok (.aload 6, 2) := by decide +kernel
theorem dX7_build_76 : decode cX7_build 76 = .ok (.aload_n 1, 1) := by decide +kernel
theorem dX7_build_77 : decode cX7_build 77 = .ok (.getfield 22, 3) := by decide +kernel
theorem dX7_build_80 : decode cX7_build 80 = .ok (.iload 5, 2) := by decide +kernel
theorem dX7_build_82 : decode cX7_build 82 = .ok (.iconst 2, 1) := by decide +kernel
theorem dX7_build_83 : decode cX7_build 83 = .ok (.iadd, 1) := by decide +kernel
theorem dX7_build_84 : decode cX7_build 84 = .ok (.iaload, 1) := by decide +kernel
theorem dX7_build_85 : decode cX7_build 85 = .ok (.bipush 48, 2) := by decide +kernel
theorem dX7_build_87 : decode cX7_build 87 = .ok (.isub, 1) := by decide +kernel
theorem dX7_build_88 : decode cX7_build 88 = .ok (.putfield 38, 3) := by decide +kernel
theorem dX7_build_91 : decode cX7_build 91 = .ok (.aload 6, 2) := by decide +kernel
theorem dX7_build_93 : decode cX7_build 93 = .ok (.aload_n 1, 1) := by decide +kernel
theorem dX7_build_94 : decode cX7_build 94 = .ok (.getfield 22, 3) := by decide +kernel
theorem dX7_build_97 : decode cX7_build 97 = .ok (.iload 5, 2) := by decide +kernel
theorem dX7_build_99 : decode cX7_build 99 = .ok (.iconst 3, 1) := by decide +kernel
theorem dX7_build_100 : decode cX7_build 100 = .ok (.iadd, 1) := by decide +kernel
theorem dX7_build_101 : decode cX7_build 101 = .ok (.iaload, 1) := by decide +kernel
theorem dX7_build_102 : decode cX7_build 102 = .ok (.bipush 48, 2) := by decide +kernel
theorem dX7_build_104 : decode cX7_build 104 = .ok (.isub, 1) := by decide +kernel
theorem dX7_build_105 : decode cX7_build 105 = .ok (.putfield 41, 3) := by decide +kernel
theorem dX7_build_108 : decode cX7_build 108 = .ok (.aload 6, 2) := by decide +kernel
theorem dX7_build_110 : decode cX7_build 110 = .ok (.aload_n 1, 1) := by decide +kernel
theorem dX7_build_111 : decode cX7_build 111 = .ok (.getfield 22, 3) := by decide +kernel
theorem dX7_build_114 : decode cX7_build 114 = .ok (.iload 5, 2) := by decide +kernel
theorem dX7_build_116 : decode cX7_build 116 = .ok (.iconst 4, 1) := by decide +kernel
theorem dX7_build_117 : decode cX7_build 117 = .ok (.iadd, 1) := by decide +kernel
theorem dX7_build_118 : decode cX7_build 118 = .ok (.iaload, 1) := by decide +kernel
theorem dX7_build_119 : decode cX7_build 119 = .ok (.bipush 48, 2) := by decide +kernel
theorem dX7_build_121 : decode cX7_build 121 = .ok (.isub, 1) := by decide +kernel
theorem dX7_build_122 : decode cX7_build 122 = .ok (.putfield 44, 3) := by decide +kernel
theorem dX7_build_125 : decode cX7_build 125 = .ok (.aload 6, 2) := by decide +kernel
theorem dX7_build_127 : decode cX7_build 127 = .ok (.aload_n 1, 1) := by decide +kernel
theorem dX7_build_128 : decode cX7_build 128 = .ok (.getfield 22, 3) := by decide +kernel
theorem dX7_build_131 : decode cX7_build 131 = .ok (.iload 5, 2) := by decide +kernel
theorem dX7_build_133 : decode cX7_build 133 = .ok (.iconst 5, 1) := by decide +kernel
theorem dX7_build_134 : decode cX7_build 134 = .ok (.iadd, 1) := by decide +kernel
theorem dX7_build_135 : decode cX7_build 135 = .ok (.iaload, 1) := by decide +kernel
theorem dX7_build_136 : decode cX7_build 136 = .ok (.bipush 48, 2) := by decide +kernel
theorem dX7_build_138 : decode cX7_build 138 = .ok (.isub, 1) := by decide +kernel
theorem dX7_build_139 : decode cX7_build 139 = .ok (.putfield 47, 3) := by decide +kernel
theorem dX7_build_142 : decode cX7_build 142 = .ok (.iinc 4 1, 3) := by decide +kernel
theorem dX7_build_145 : decode cX7_build 145 = .ok (.goto (-117), 3) := by decide +kernel
theorem dX7_build_148 : decode cX7_build 148 = .ok (.return_, 1) := by decide +kernel
theorem dX7_kindOf_0 : decode cX7_kindOf 0 = .ok (.iload_n 0, 1) := by decide +kernel
theorem dX7_kindOf_1 : decode cX7_kindOf 1 = .ok (.lookupswitch 31 #[(105, 29), (112, 27)], 27) := by decide +kernel
theorem dX7_kindOf_28 : decode cX7_kindOf 28 = .ok (.iconst 2, 1) := by decide +kernel
theorem dX7_kindOf_29 : decode cX7_kindOf 29 = .ok (.ireturn, 1) := by decide +kernel
theorem dX7_kindOf_30 : decode cX7_kindOf 30 = .ok (.iconst 1, 1) := by decide +kernel
theorem dX7_kindOf_31 : decode cX7_kindOf 31 = .ok (.ireturn, 1) := by decide +kernel
theorem dX7_kindOf_32 : decode cX7_kindOf 32 = .ok (.iconst 0, 1) := by decide +kernel
theorem dX7_kindOf_33 : decode cX7_kindOf 33 = .ok (.ireturn, 1) := by decide +kernel
theorem dJ6_bitCount_0f7a4_0 : decode cJ6_bitCount_0f7a4 0 = .ok (.iload_n 0, 1) := by decide +kernel
theorem dJ6_bitCount_0f7a4_1 : decode cJ6_bitCount_0f7a4 1 = .ok (.iload_n 0, 1) := by decide +kernel
theorem dJ6_bitCount_0f7a4_2 : decode cJ6_bitCount_0f7a4 2 = .ok (.iconst 1, 1) := by decide +kernel
theorem dJ6_bitCount_0f7a4_3 : decode cJ6_bitCount_0f7a4 3 = .ok (.iushr, 1) := by decide +kernel
theorem dJ6_bitCount_0f7a4_4 : decode cJ6_bitCount_0f7a4 4 = .ok (.ldc_w 265, 3) := by decide +kernel
theorem dJ6_bitCount_0f7a4_7 : decode cJ6_bitCount_0f7a4 7 = .ok (.iand, 1) := by decide +kernel
theorem dJ6_bitCount_0f7a4_8 : decode cJ6_bitCount_0f7a4 8 = .ok (.isub, 1) := by decide +kernel
theorem dJ6_bitCount_0f7a4_9 : decode cJ6_bitCount_0f7a4 9 = .ok (.istore_n 0, 1) := by decide +kernel
theorem dJ6_bitCount_0f7a4_10 : decode cJ6_bitCount_0f7a4 10 = .ok (.iload_n 0, 1) := by decide +kernel
theorem dJ6_bitCount_0f7a4_11 : decode cJ6_bitCount_0f7a4 11 = .ok (.ldc_w 266, 3) := by decide +kernel
theorem dJ6_bitCount_0f7a4_14 : decode cJ6_bitCount_0f7a4 14 = .ok (.iand, 1) := by decide +kernel
theorem dJ6_bitCount_0f7a4_15 : decode cJ6_bitCount_0f7a4 15 = .ok (.iload_n 0, 1) := by decide +kernel
theorem dJ6_bitCount_0f7a4_16 : decode cJ6_bitCount_0f7a4 16 = .ok (.iconst 2, 1) := by decide +kernel
theorem dJ6_bitCount_0f7a4_17 : decode cJ6_bitCount_0f7a4 17 = .ok (.iushr, 1) := by decide +kernel
theorem dJ6_bitCount_0f7a4_18 : decode cJ6_bitCount_0f7a4 18 = .ok (.ldc_w 266, 3) := by decide +kernel
theorem dJ6_bitCount_0f7a4_21 : decode cJ6_bitCount_0f7a4 21 = .ok (.iand, 1) := by decide +kernel
theorem dJ6_bitCount_0f7a4_22 : decode cJ6_bitCount_0f7a4 22 = .ok (.iadd, 1) := by decide +kernel
theorem dJ6_bitCount_0f7a4_23 : decode cJ6_bitCount_0f7a4 23 = .ok (.istore_n 0, 1) := by decide +kernel
theorem dJ6_bitCount_0f7a4_24 : decode cJ6_bitCount_0f7a4 24 = .ok (.iload_n 0, 1) := by decide +kernel
theorem dJ6_bitCount_0f7a4_25 : decode cJ6_bitCount_0f7a4 25 = .ok (.iload_n 0, 1) := by decide +kernel
theorem dJ6_bitCount_0f7a4_26 : decode cJ6_bitCount_0f7a4 26 = .ok (.iconst 4, 1) := by decide +kernel
theorem dJ6_bitCount_0f7a4_27 : decode cJ6_bitCount_0f7a4 27 = .ok (.iushr, 1) := by decide +kernel
theorem dJ6_bitCount_0f7a4_28 : decode cJ6_bitCount_0f7a4 28 = .ok (.iadd, 1) := by decide +kernel
theorem dJ6_bitCount_0f7a4_29 : decode cJ6_bitCount_0f7a4 29 = .ok (.ldc_w 267, 3) := by decide +kernel
theorem dJ6_bitCount_0f7a4_32 : decode cJ6_bitCount_0f7a4 32 = .ok (.iand, 1) := by decide +kernel
theorem dJ6_bitCount_0f7a4_33 : decode cJ6_bitCount_0f7a4 33 = .ok (.istore_n 0, 1) := by decide +kernel
theorem dJ6_bitCount_0f7a4_34 : decode cJ6_bitCount_0f7a4 34 = .ok (.iload_n 0, 1) := by decide +kernel
theorem dJ6_bitCount_0f7a4_35 : decode cJ6_bitCount_0f7a4 35 = .ok (.iload_n 0, 1) := by decide +kernel
theorem dJ6_bitCount_0f7a4_36 : decode cJ6_bitCount_0f7a4 36 = .ok (.bipush 8, 2) := by decide +kernel
theorem dJ6_bitCount_0f7a4_38 : decode cJ6_bitCount_0f7a4 38 = .ok (.iushr, 1) := by decide +kernel
theorem dJ6_bitCount_0f7a4_39 : decode cJ6_bitCount_0f7a4 39 = .ok (.iadd, 1) := by decide +kernel
theorem dJ6_bitCount_0f7a4_40 : decode cJ6_bitCount_0f7a4 40 = .ok (.istore_n 0, 1) := by decide +kernel
theorem dJ6_bitCount_0f7a4_41 : decode cJ6_bitCount_0f7a4 41 = .ok (.iload_n 0, 1) := by decide +kernel
theorem dJ6_bitCount_0f7a4_42 : decode cJ6_bitCount_0f7a4 42 = .ok (.iload_n 0, 1) := by decide +kernel
theorem dJ6_bitCount_0f7a4_43 : decode cJ6_bitCount_0f7a4 43 = .ok (.bipush 16, 2) := by decide +kernel
theorem dJ6_bitCount_0f7a4_45 : decode cJ6_bitCount_0f7a4 45 = .ok (.iushr, 1) := by decide +kernel
theorem dJ6_bitCount_0f7a4_46 : decode cJ6_bitCount_0f7a4 46 = .ok (.iadd, 1) := by decide +kernel
theorem dJ6_bitCount_0f7a4_47 : decode cJ6_bitCount_0f7a4 47 = .ok (.istore_n 0, 1) := by decide +kernel
theorem dJ6_bitCount_0f7a4_48 : decode cJ6_bitCount_0f7a4 48 = .ok (.iload_n 0, 1) := by decide +kernel
theorem dJ6_bitCount_0f7a4_49 : decode cJ6_bitCount_0f7a4 49 = .ok (.bipush 63, 2) := by decide +kernel
theorem dJ6_bitCount_0f7a4_51 : decode cJ6_bitCount_0f7a4 51 = .ok (.iand, 1) := by decide +kernel
theorem dJ6_bitCount_0f7a4_52 : decode cJ6_bitCount_0f7a4 52 = .ok (.ireturn, 1) := by decide +kernel
end
section
theorem sX0_has_0 {L : Nat} {xs : Nat → Int32} {a0 : Option Value} {x : Int32} {st : List Value} {h : zH} : go L xs 1 69 0 [a0, some (.int x)] st h = go L xs 1 69 1 [a0, some (.int x)] (.int x :: st) h := g_nx dX0_has_0 rfl
theorem sX0_has_1 {L : Nat} {xs : Nat → Int32} {zl : zLs} {st : List Value} {h : zH} {x : Int32} : go L xs 1 69 1 zl (.int x :: st) h = if x < 0 then go L xs 1 69 16 zl st h else go L xs 1 69 4 zl st h := (g_if dX0_has_1 rfl).trans (zite zcc_lt)
theorem sX0_has_4 {L : Nat} {xs : Nat → Int32} {a0 : Option Value} {x : Int32} {st : List Value} {h : zH} : go L xs 1 69 4 [a0, some (.int x)] st h = go L xs 1 69 5 [a0, some (.int x)] (.int x :: st) h := g_nx dX0_has_4 rfl
theorem sX0_has_5 {L : Nat} {xs : Nat → Int32} {a1 : Option Value} {x : Nat} {st : List Value} {h : zH} : go L xs 1 69 5 [some (.ref x), a1] st h = go L xs 1 69 6 [some (.ref x), a1] (.ref x :: st) h := g_nx dX0_has_5 rfl
theorem sX0_has_6 {L : Nat} {xs : Nat → Int32} {zl : zLs} {st : List Value} {g : Nat → Nat → Int32} {t : Nat → Int64} : go L xs 1 69 6 zl (.ref 10 :: st) (hp g t) = go L xs 1 69 9 zl (.int (g 10 5) :: st) (hp g t) := (g_getI dX0_has_6 zf_0_28 (by decide) (by decide)).trans (if_pos rfl)
theorem sX0_has_9 {L : Nat} {xs : Nat → Int32} {zl : zLs} {st : List Value} {h : zH} {x y : Int32} : go L xs 1 69 9 zl (.int y :: .int x :: st) h = if x < y then go L xs 1 69 12 zl st h else go L xs 1 69 16 zl st h := (g_ic dX0_has_9 rfl).trans (zitn zcn_ge)
theorem sX0_has_12 {L : Nat} {xs : Nat → Int32} {zl : zLs} {st : List Value} {h : zH} : go L xs 1 69 12 zl st h = go L xs 1 69 13 zl (.int 1 :: st) h := g_nx dX0_has_12 rfl
theorem sX0_has_13 {L : Nat} {xs : Nat → Int32} {zl : zLs} {st : List Value} {h : zH} : go L xs 1 69 13 zl st h = go L xs 1 69 17 zl st h := g_nx dX0_has_13 rfl
theorem sX0_has_16 {L : Nat} {xs : Nat → Int32} {zl : zLs} {st : List Value} {h : zH} : go L xs 1 69 16 zl st h = go L xs 1 69 17 zl (.int 0 :: st) h := g_nx dX0_has_16 rfl
theorem sX0_has_17 {L : Nat} {xs : Nat → Int32} {zl : zLs} {g : Nat → Nat → Int32} {t : Nat → Int64} {x : Int32} : go L xs 1 69 17 zl [.int x] (hp g t) = if x = 0 ∨ x = 1 then some (some (.int x), hp g t) else none := g_retZ dX0_has_17 rfl rfl
theorem sX1_pressedBy_0 {L : Nat} {xs : Nat → Int32} {a0 a2 a3 : Option Value} {x : Int32} {st : List Value} {h : zH} : go L xs 8 69 0 [a0, some (.int x), a2, a3] st h = go L xs 8 69 1 [a0, some (.int x), a2, a3] (.int x :: st) h := g_nx dX1_pressedBy_0 rfl
theorem sX1_pressedBy_1 {L : Nat} {xs : Nat → Int32} {a1 a2 a3 : Option Value} {x : Nat} {st : List Value} {h : zH} : go L xs 8 69 1 [some (.ref x), a1, a2, a3] st h = go L xs 8 69 2 [some (.ref x), a1, a2, a3] (.ref x :: st) h := g_nx dX1_pressedBy_1 rfl
theorem sX1_pressedBy_2 {L : Nat} {xs : Nat → Int32} {zl : zLs} {st : List Value} {g : Nat → Nat → Int32} {t : Nat → Int64} {k : Nat} : go L xs 8 69 2 zl (.ref k :: st) (hp g t) = if ztag k = 1 then go L xs 8 69 5 zl (.int (g k 2) :: st) (hp g t) else none := g_getI dX1_pressedBy_2 zf_1_9 (by decide) (by decide)
theorem sX1_pressedBy_5 {L : Nat} {xs : Nat → Int32} {zl : zLs} {st : List Value} {h : zH} {x y : Int32} : go L xs 8 69 5 zl (.int y :: .int x :: st) h = go L xs 8 69 6 zl (.int (x * y) :: st) h := g_nx dX1_pressedBy_5 rfl
theorem sX1_pressedBy_6 {L : Nat} {xs : Nat → Int32} {a0 a1 a2 a3 : Option Value} {x : Int32} {st : List Value} {h : zH} : go L xs 8 69 6 [a0, a1, a2, a3] (.int x :: st) h = go L xs 8 69 7 [a0, a1, a2, some (.int x)] st h := g_nx dX1_pressedBy_6 rfl
theorem sX1_pressedBy_7 {L : Nat} {xs : Nat → Int32} {a0 a1 a3 : Option Value} {x : Int32} {st : List Value} {h : zH} : go L xs 8 69 7 [a0, a1, some (.int x), a3] st h = go L xs 8 69 8 [a0, a1, some (.int x), a3] (.int x :: st) h := g_nx dX1_pressedBy_7 rfl
theorem sX1_pressedBy_8 {L : Nat} {xs : Nat → Int32} {zl : zLs} {st : List Value} {h : zH} {x : Int32} : go L xs 8 69 8 zl (.int x :: st) h = if x = 0 then go L xs 8 69 17 zl st h else go L xs 8 69 11 zl st h := (g_if dX1_pressedBy_8 rfl).trans (zite zcc_eq)
theorem sX1_pressedBy_11 {L : Nat} {xs : Nat → Int32} {a0 a1 a2 : Option Value} {x : Int32} {st : List Value} {h : zH} : go L xs 8 69 11 [a0, a1, a2, some (.int x)] st h = go L xs 8 69 12 [a0, a1, a2, some (.int x)] (.int x :: st) h := g_nx dX1_pressedBy_11 rfl
theorem sX1_pressedBy_12 {L : Nat} {xs : Nat → Int32} {zl : zLs} {st : List Value} {h : zH} : go L xs 8 69 12 zl st h = go L xs 8 69 13 zl (.int 2 :: st) h := g_nx dX1_pressedBy_12 rfl
theorem sX1_pressedBy_13 {L : Nat} {xs : Nat → Int32} {zl : zLs} {st : List Value} {h : zH} {x : Int32} : go L xs 8 69 13 zl (.int 2 :: .int x :: st) h = go L xs 8 69 14 zl (.int (x / 2) :: st) h := g_div dX1_pressedBy_13 (by decide)
theorem sX1_pressedBy_14 {L : Nat} {xs : Nat → Int32} {zl : zLs} {st : List Value} {h : zH} : go L xs 8 69 14 zl st h = go L xs 8 69 18 zl st h := g_nx dX1_pressedBy_14 rfl
theorem sX1_pressedBy_17 {L : Nat} {xs : Nat → Int32} {a0 a1 a2 : Option Value} {x : Int32} {st : List Value} {h : zH} : go L xs 8 69 17 [a0, a1, a2, some (.int x)] st h = go L xs 8 69 18 [a0, a1, a2, some (.int x)] (.int x :: st) h := g_nx dX1_pressedBy_17 rfl
theorem sX1_pressedBy_18 {L : Nat} {xs : Nat → Int32} {zl : zLs} {g : Nat → Nat → Int32} {t : Nat → Int64} {x : Int32} : go L xs 8 69 18 zl [.int x] (hp g t) = some (some (.int x), hp g t) := g_ret dX1_pressedBy_18 rfl
end
