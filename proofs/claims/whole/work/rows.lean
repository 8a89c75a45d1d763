section
-- ===== PART A: goes FIRST, ahead of the names: the tables' words, and 'selects' of the private methods out of them =====
/-- a private method of a class that the tables say can be made, by its rows of tables_1 -/
def lw_okq (q : MethodName × Nat) : Prop := (q.1.cls ≠ "java/lang/invoke/MethodHandle" ∧ q.1.cls ≠ "java/lang/invoke/VarHandle") ∧ Cond.instantiable q.1.cls q.2 ∈ tables_1 ∧ Cond.privateMethod q.1 ∈ tables_1 ∧ Cond.instanceMethod q.1 ∈ tables_1
theorem lw_p0 : lw_okq (⟨"GoodHalfEmpty", "refuse", "(I)I"⟩, 11) := ⟨⟨by decide +kernel, by decide +kernel⟩, List.mem_of_getElem? (i := 17) (by decide +kernel), List.mem_of_getElem? (i := 268) (by decide +kernel), List.mem_of_getElem? (i := 269) (by decide +kernel)⟩
theorem lw_p1 : lw_okq (⟨"GoodHalfEmpty$Text", "add", "(I)I"⟩, 2) := ⟨⟨by decide +kernel, by decide +kernel⟩, List.mem_of_getElem? (i := 160) (by decide +kernel), List.mem_of_getElem? (i := 278) (by decide +kernel), List.mem_of_getElem? (i := 279) (by decide +kernel)⟩
theorem lw_p2 : lw_okq (⟨"GoodHalfEmpty$Town", "copyFrom", "(LGoodHalfEmpty$Town;)V"⟩, 9) := ⟨⟨by decide +kernel, by decide +kernel⟩, List.mem_of_getElem? (i := 25) (by decide +kernel), List.mem_of_getElem? (i := 290) (by decide +kernel), List.mem_of_getElem? (i := 291) (by decide +kernel)⟩
theorem lw_p3 : lw_okq (⟨"GoodHalfEmpty$Sorts", "copyFrom", "(LGoodHalfEmpty$Sorts;)V"⟩, 7) := ⟨⟨by decide +kernel, by decide +kernel⟩, List.mem_of_getElem? (i := 31) (by decide +kernel), List.mem_of_getElem? (i := 294) (by decide +kernel), List.mem_of_getElem? (i := 295) (by decide +kernel)⟩
theorem lw_p4 : lw_okq (⟨"GoodHalfEmpty$Rules", "copyFrom", "(LGoodHalfEmpty$Rules;)V"⟩, 4) := ⟨⟨by decide +kernel, by decide +kernel⟩, List.mem_of_getElem? (i := 79) (by decide +kernel), List.mem_of_getElem? (i := 301) (by decide +kernel), List.mem_of_getElem? (i := 302) (by decide +kernel)⟩
theorem lw_p5 : lw_okq (⟨"GoodHalfEmpty$Memory", "copyFrom", "(LGoodHalfEmpty$Memory;)V"⟩, 2) := ⟨⟨by decide +kernel, by decide +kernel⟩, List.mem_of_getElem? (i := 106) (by decide +kernel), List.mem_of_getElem? (i := 306) (by decide +kernel), List.mem_of_getElem? (i := 307) (by decide +kernel)⟩
theorem lw_p6 : lw_okq (⟨"GoodHalfEmpty$Text", "tellTo", "(LGoodHalfEmpty$Town;)I"⟩, 2) := ⟨⟨by decide +kernel, by decide +kernel⟩, List.mem_of_getElem? (i := 160) (by decide +kernel), List.mem_of_getElem? (i := 311) (by decide +kernel), List.mem_of_getElem? (i := 312) (by decide +kernel)⟩
theorem lw_p7 : lw_okq (⟨"GoodHalfEmpty$Text", "badPlace", "()I"⟩, 2) := ⟨⟨by decide +kernel, by decide +kernel⟩, List.mem_of_getElem? (i := 160) (by decide +kernel), List.mem_of_getElem? (i := 315) (by decide +kernel), List.mem_of_getElem? (i := 316) (by decide +kernel)⟩
theorem lw_p8 : lw_okq (⟨"GoodHalfEmpty$Text", "formAt", "(I)Ljava/lang/String;"⟩, 2) := ⟨⟨by decide +kernel, by decide +kernel⟩, List.mem_of_getElem? (i := 160) (by decide +kernel), List.mem_of_getElem? (i := 319) (by decide +kernel), List.mem_of_getElem? (i := 320) (by decide +kernel)⟩
theorem lw_p9 : lw_okq (⟨"GoodHalfEmpty$Text", "letterAt", "(I)I"⟩, 2) := ⟨⟨by decide +kernel, by decide +kernel⟩, List.mem_of_getElem? (i := 160) (by decide +kernel), List.mem_of_getElem? (i := 323) (by decide +kernel), List.mem_of_getElem? (i := 324) (by decide +kernel)⟩
theorem lw_p10 : lw_okq (⟨"GoodHalfEmpty$Text", "numberForm", "(I)Ljava/lang/String;"⟩, 2) := ⟨⟨by decide +kernel, by decide +kernel⟩, List.mem_of_getElem? (i := 160) (by decide +kernel), List.mem_of_getElem? (i := 327) (by decide +kernel), List.mem_of_getElem? (i := 328) (by decide +kernel)⟩
theorem lw_p11 : lw_okq (⟨"GoodHalfEmpty$Text", "isDigit", "(I)Z"⟩, 2) := ⟨⟨by decide +kernel, by decide +kernel⟩, List.mem_of_getElem? (i := 160) (by decide +kernel), List.mem_of_getElem? (i := 331) (by decide +kernel), List.mem_of_getElem? (i := 332) (by decide +kernel)⟩
theorem lw_p12 : lw_okq (⟨"GoodHalfEmpty$Text", "fits", "(IC)Z"⟩, 2) := ⟨⟨by decide +kernel, by decide +kernel⟩, List.mem_of_getElem? (i := 160) (by decide +kernel), List.mem_of_getElem? (i := 392) (by decide +kernel), List.mem_of_getElem? (i := 393) (by decide +kernel)⟩
theorem lw_p13 : lw_okq (⟨"GoodHalfEmpty$Text", "kindAt", "(ILjava/lang/String;)I"⟩, 2) := ⟨⟨by decide +kernel, by decide +kernel⟩, List.mem_of_getElem? (i := 160) (by decide +kernel), List.mem_of_getElem? (i := 397) (by decide +kernel), List.mem_of_getElem? (i := 398) (by decide +kernel)⟩
theorem lw_p14 : lw_okq (⟨"GoodHalfEmpty$Text", "tellStatement", "(LGoodHalfEmpty$Town;I)Z"⟩, 2) := ⟨⟨by decide +kernel, by decide +kernel⟩, List.mem_of_getElem? (i := 160) (by decide +kernel), List.mem_of_getElem? (i := 459) (by decide +kernel), List.mem_of_getElem? (i := 460) (by decide +kernel)⟩
theorem lw_p15 : lw_okq (⟨"GoodHalfEmpty$Text", "numberAt", "(I)I"⟩, 2) := ⟨⟨by decide +kernel, by decide +kernel⟩, List.mem_of_getElem? (i := 160) (by decide +kernel), List.mem_of_getElem? (i := 463) (by decide +kernel), List.mem_of_getElem? (i := 464) (by decide +kernel)⟩
def lw_privs_1 : List (MethodName × Nat) := [(⟨"GoodHalfEmpty", "refuse", "(I)I"⟩, 11), (⟨"GoodHalfEmpty$Text", "add", "(I)I"⟩, 2), (⟨"GoodHalfEmpty$Town", "copyFrom", "(LGoodHalfEmpty$Town;)V"⟩, 9), (⟨"GoodHalfEmpty$Sorts", "copyFrom", "(LGoodHalfEmpty$Sorts;)V"⟩, 7), (⟨"GoodHalfEmpty$Rules", "copyFrom", "(LGoodHalfEmpty$Rules;)V"⟩, 4), (⟨"GoodHalfEmpty$Memory", "copyFrom", "(LGoodHalfEmpty$Memory;)V"⟩, 2), (⟨"GoodHalfEmpty$Text", "tellTo", "(LGoodHalfEmpty$Town;)I"⟩, 2), (⟨"GoodHalfEmpty$Text", "badPlace", "()I"⟩, 2), (⟨"GoodHalfEmpty$Text", "formAt", "(I)Ljava/lang/String;"⟩, 2), (⟨"GoodHalfEmpty$Text", "letterAt", "(I)I"⟩, 2), (⟨"GoodHalfEmpty$Text", "numberForm", "(I)Ljava/lang/String;"⟩, 2), (⟨"GoodHalfEmpty$Text", "isDigit", "(I)Z"⟩, 2), (⟨"GoodHalfEmpty$Text", "fits", "(IC)Z"⟩, 2), (⟨"GoodHalfEmpty$Text", "kindAt", "(ILjava/lang/String;)I"⟩, 2), (⟨"GoodHalfEmpty$Text", "tellStatement", "(LGoodHalfEmpty$Town;I)Z"⟩, 2), (⟨"GoodHalfEmpty$Text", "numberAt", "(I)I"⟩, 2)]
theorem lw_r1 : ∀ q ∈ lw_privs_1, lw_okq q := List.forall_mem_cons.mpr ⟨lw_p0, List.forall_mem_cons.mpr ⟨lw_p1, List.forall_mem_cons.mpr ⟨lw_p2, List.forall_mem_cons.mpr ⟨lw_p3, List.forall_mem_cons.mpr ⟨lw_p4, List.forall_mem_cons.mpr ⟨lw_p5, List.forall_mem_cons.mpr ⟨lw_p6, List.forall_mem_cons.mpr ⟨lw_p7, List.forall_mem_cons.mpr ⟨lw_p8, List.forall_mem_cons.mpr ⟨lw_p9, List.forall_mem_cons.mpr ⟨lw_p10, List.forall_mem_cons.mpr ⟨lw_p11, List.forall_mem_cons.mpr ⟨lw_p12, List.forall_mem_cons.mpr ⟨lw_p13, List.forall_mem_cons.mpr ⟨lw_p14, List.forall_mem_cons.mpr ⟨lw_p15, fun _ h => absurd h List.not_mem_nil⟩⟩⟩⟩⟩⟩⟩⟩⟩⟩⟩⟩⟩⟩⟩⟩
theorem lw_p16 : lw_okq (⟨"GoodHalfEmpty$Text", "digitAt", "(I)I"⟩, 2) := ⟨⟨by decide +kernel, by decide +kernel⟩, List.mem_of_getElem? (i := 160) (by decide +kernel), List.mem_of_getElem? (i := 467) (by decide +kernel), List.mem_of_getElem? (i := 468) (by decide +kernel)⟩
theorem lw_p17 : lw_okq (⟨"GoodHalfEmpty$Town", "setChairs", "(I)Z"⟩, 9) := ⟨⟨by decide +kernel, by decide +kernel⟩, List.mem_of_getElem? (i := 25) (by decide +kernel), List.mem_of_getElem? (i := 471) (by decide +kernel), List.mem_of_getElem? (i := 472) (by decide +kernel)⟩
theorem lw_p18 : lw_okq (⟨"GoodHalfEmpty$Town", "addWeek", "(I)Z"⟩, 9) := ⟨⟨by decide +kernel, by decide +kernel⟩, List.mem_of_getElem? (i := 25) (by decide +kernel), List.mem_of_getElem? (i := 475) (by decide +kernel), List.mem_of_getElem? (i := 476) (by decide +kernel)⟩
theorem lw_p19 : lw_okq (⟨"GoodHalfEmpty$Memory", "add", "(I)V"⟩, 2) := ⟨⟨by decide +kernel, by decide +kernel⟩, List.mem_of_getElem? (i := 106) (by decide +kernel), List.mem_of_getElem? (i := 479) (by decide +kernel), List.mem_of_getElem? (i := 480) (by decide +kernel)⟩
theorem lw_p20 : lw_okq (⟨"GoodHalfEmpty$Rules", "add", "(II)Z"⟩, 4) := ⟨⟨by decide +kernel, by decide +kernel⟩, List.mem_of_getElem? (i := 79) (by decide +kernel), List.mem_of_getElem? (i := 486) (by decide +kernel), List.mem_of_getElem? (i := 487) (by decide +kernel)⟩
theorem lw_p21 : lw_okq (⟨"GoodHalfEmpty$Text", "tellSort", "(LGoodHalfEmpty$Town;I)Z"⟩, 2) := ⟨⟨by decide +kernel, by decide +kernel⟩, List.mem_of_getElem? (i := 160) (by decide +kernel), List.mem_of_getElem? (i := 491) (by decide +kernel), List.mem_of_getElem? (i := 492) (by decide +kernel)⟩
theorem lw_p22 : lw_okq (⟨"GoodHalfEmpty$Town", "mayFollow", "(II)Z"⟩, 9) := ⟨⟨by decide +kernel, by decide +kernel⟩, List.mem_of_getElem? (i := 25) (by decide +kernel), List.mem_of_getElem? (i := 495) (by decide +kernel), List.mem_of_getElem? (i := 496) (by decide +kernel)⟩
theorem lw_p23 : lw_okq (⟨"GoodHalfEmpty$Rules", "has", "(I)Z"⟩, 4) := ⟨⟨by decide +kernel, by decide +kernel⟩, List.mem_of_getElem? (i := 79) (by decide +kernel), List.mem_of_getElem? (i := 499) (by decide +kernel), List.mem_of_getElem? (i := 500) (by decide +kernel)⟩
theorem lw_p24 : lw_okq (⟨"GoodHalfEmpty$Sorts", "add", "(IIIIII)Z"⟩, 7) := ⟨⟨by decide +kernel, by decide +kernel⟩, List.mem_of_getElem? (i := 31) (by decide +kernel), List.mem_of_getElem? (i := 503) (by decide +kernel), List.mem_of_getElem? (i := 504) (by decide +kernel)⟩
theorem lw_p25 : lw_okq (⟨"GoodHalfEmpty$Text", "clear", "()V"⟩, 2) := ⟨⟨by decide +kernel, by decide +kernel⟩, List.mem_of_getElem? (i := 160) (by decide +kernel), List.mem_of_getElem? (i := 508) (by decide +kernel), List.mem_of_getElem? (i := 509) (by decide +kernel)⟩
theorem lw_p26 : lw_okq (⟨"GoodHalfEmpty$Sorts", "has", "(I)Z"⟩, 7) := ⟨⟨by decide +kernel, by decide +kernel⟩, List.mem_of_getElem? (i := 31) (by decide +kernel), List.mem_of_getElem? (i := 517) (by decide +kernel), List.mem_of_getElem? (i := 518) (by decide +kernel)⟩
theorem lw_p27 : lw_okq (⟨"GoodHalfEmpty$Town", "foretells", "(II)I"⟩, 9) := ⟨⟨by decide +kernel, by decide +kernel⟩, List.mem_of_getElem? (i := 25) (by decide +kernel), List.mem_of_getElem? (i := 526) (by decide +kernel), List.mem_of_getElem? (i := 527) (by decide +kernel)⟩
theorem lw_p28 : lw_okq (⟨"GoodHalfEmpty$Town", "presentAgo", "(I)I"⟩, 9) := ⟨⟨by decide +kernel, by decide +kernel⟩, List.mem_of_getElem? (i := 25) (by decide +kernel), List.mem_of_getElem? (i := 530) (by decide +kernel), List.mem_of_getElem? (i := 531) (by decide +kernel)⟩
theorem lw_p29 : lw_okq (⟨"GoodHalfEmpty$Sorts", "people", "()I"⟩, 7) := ⟨⟨by decide +kernel, by decide +kernel⟩, List.mem_of_getElem? (i := 31) (by decide +kernel), List.mem_of_getElem? (i := 534) (by decide +kernel), List.mem_of_getElem? (i := 535) (by decide +kernel)⟩
theorem lw_p30 : lw_okq (⟨"GoodHalfEmpty$Town", "meanPresent", "(I)I"⟩, 9) := ⟨⟨by decide +kernel, by decide +kernel⟩, List.mem_of_getElem? (i := 25) (by decide +kernel), List.mem_of_getElem? (i := 540) (by decide +kernel), List.mem_of_getElem? (i := 541) (by decide +kernel)⟩
theorem lw_p31 : lw_okq (⟨"GoodHalfEmpty$Town", "goBy", "()I"⟩, 9) := ⟨⟨by decide +kernel, by decide +kernel⟩, List.mem_of_getElem? (i := 25) (by decide +kernel), List.mem_of_getElem? (i := 560) (by decide +kernel), List.mem_of_getElem? (i := 561) (by decide +kernel)⟩
def lw_privs_2 : List (MethodName × Nat) := [(⟨"GoodHalfEmpty$Text", "digitAt", "(I)I"⟩, 2), (⟨"GoodHalfEmpty$Town", "setChairs", "(I)Z"⟩, 9), (⟨"GoodHalfEmpty$Town", "addWeek", "(I)Z"⟩, 9), (⟨"GoodHalfEmpty$Memory", "add", "(I)V"⟩, 2), (⟨"GoodHalfEmpty$Rules", "add", "(II)Z"⟩, 4), (⟨"GoodHalfEmpty$Text", "tellSort", "(LGoodHalfEmpty$Town;I)Z"⟩, 2), (⟨"GoodHalfEmpty$Town", "mayFollow", "(II)Z"⟩, 9), (⟨"GoodHalfEmpty$Rules", "has", "(I)Z"⟩, 4), (⟨"GoodHalfEmpty$Sorts", "add", "(IIIIII)Z"⟩, 7), (⟨"GoodHalfEmpty$Text", "clear", "()V"⟩, 2), (⟨"GoodHalfEmpty$Sorts", "has", "(I)Z"⟩, 7), (⟨"GoodHalfEmpty$Town", "foretells", "(II)I"⟩, 9), (⟨"GoodHalfEmpty$Town", "presentAgo", "(I)I"⟩, 9), (⟨"GoodHalfEmpty$Sorts", "people", "()I"⟩, 7), (⟨"GoodHalfEmpty$Town", "meanPresent", "(I)I"⟩, 9), (⟨"GoodHalfEmpty$Town", "goBy", "()I"⟩, 9)]
theorem lw_r2 : ∀ q ∈ lw_privs_2, lw_okq q := List.forall_mem_cons.mpr ⟨lw_p16, List.forall_mem_cons.mpr ⟨lw_p17, List.forall_mem_cons.mpr ⟨lw_p18, List.forall_mem_cons.mpr ⟨lw_p19, List.forall_mem_cons.mpr ⟨lw_p20, List.forall_mem_cons.mpr ⟨lw_p21, List.forall_mem_cons.mpr ⟨lw_p22, List.forall_mem_cons.mpr ⟨lw_p23, List.forall_mem_cons.mpr ⟨lw_p24, List.forall_mem_cons.mpr ⟨lw_p25, List.forall_mem_cons.mpr ⟨lw_p26, List.forall_mem_cons.mpr ⟨lw_p27, List.forall_mem_cons.mpr ⟨lw_p28, List.forall_mem_cons.mpr ⟨lw_p29, List.forall_mem_cons.mpr ⟨lw_p30, List.forall_mem_cons.mpr ⟨lw_p31, fun _ h => absurd h List.not_mem_nil⟩⟩⟩⟩⟩⟩⟩⟩⟩⟩⟩⟩⟩⟩⟩⟩
theorem lw_p32 : lw_okq (⟨"GoodHalfEmpty$Town", "askRules", "()V"⟩, 9) := ⟨⟨by decide +kernel, by decide +kernel⟩, List.mem_of_getElem? (i := 25) (by decide +kernel), List.mem_of_getElem? (i := 564) (by decide +kernel), List.mem_of_getElem? (i := 565) (by decide +kernel)⟩
theorem lw_p33 : lw_okq (⟨"GoodHalfEmpty$Town", "askSorts", "()V"⟩, 9) := ⟨⟨by decide +kernel, by decide +kernel⟩, List.mem_of_getElem? (i := 25) (by decide +kernel), List.mem_of_getElem? (i := 571) (by decide +kernel), List.mem_of_getElem? (i := 572) (by decide +kernel)⟩
theorem lw_p34 : lw_okq (⟨"GoodHalfEmpty$Town", "wantsToGo", "(I)Z"⟩, 9) := ⟨⟨by decide +kernel, by decide +kernel⟩, List.mem_of_getElem? (i := 25) (by decide +kernel), List.mem_of_getElem? (i := 575) (by decide +kernel), List.mem_of_getElem? (i := 576) (by decide +kernel)⟩
theorem lw_p35 : lw_okq (⟨"GoodHalfEmpty$Rules", "mostRight", "(I)I"⟩, 4) := ⟨⟨by decide +kernel, by decide +kernel⟩, List.mem_of_getElem? (i := 79) (by decide +kernel), List.mem_of_getElem? (i := 579) (by decide +kernel), List.mem_of_getElem? (i := 580) (by decide +kernel)⟩
theorem lw_p36 : lw_okq (⟨"GoodHalfEmpty$Town", "settle", "(IZ)V"⟩, 9) := ⟨⟨by decide +kernel, by decide +kernel⟩, List.mem_of_getElem? (i := 25) (by decide +kernel), List.mem_of_getElem? (i := 587) (by decide +kernel), List.mem_of_getElem? (i := 588) (by decide +kernel)⟩
theorem lw_p37 : lw_okq (⟨"GoodHalfEmpty$Town", "isRight", "(I)Z"⟩, 9) := ⟨⟨by decide +kernel, by decide +kernel⟩, List.mem_of_getElem? (i := 25) (by decide +kernel), List.mem_of_getElem? (i := 591) (by decide +kernel), List.mem_of_getElem? (i := 592) (by decide +kernel)⟩
theorem lw_p38 : lw_okq (⟨"GoodHalfEmpty$Town", "decide", "()V"⟩, 9) := ⟨⟨by decide +kernel, by decide +kernel⟩, List.mem_of_getElem? (i := 25) (by decide +kernel), List.mem_of_getElem? (i := 599) (by decide +kernel), List.mem_of_getElem? (i := 600) (by decide +kernel)⟩
theorem lw_p39 : lw_okq (⟨"GoodHalfEmpty", "refuseWorth", "(I)I"⟩, 11) := ⟨⟨by decide +kernel, by decide +kernel⟩, List.mem_of_getElem? (i := 17) (by decide +kernel), List.mem_of_getElem? (i := 611) (by decide +kernel), List.mem_of_getElem? (i := 612) (by decide +kernel)⟩
theorem lw_p40 : lw_okq (⟨"GoodHalfEmpty$Town", "worthToAll", "()I"⟩, 9) := ⟨⟨by decide +kernel, by decide +kernel⟩, List.mem_of_getElem? (i := 25) (by decide +kernel), List.mem_of_getElem? (i := 616) (by decide +kernel), List.mem_of_getElem? (i := 617) (by decide +kernel)⟩
theorem lw_p41 : lw_okq (⟨"GoodHalfEmpty$Town", "worthToOne", "(I)I"⟩, 9) := ⟨⟨by decide +kernel, by decide +kernel⟩, List.mem_of_getElem? (i := 25) (by decide +kernel), List.mem_of_getElem? (i := 620) (by decide +kernel), List.mem_of_getElem? (i := 621) (by decide +kernel)⟩
theorem lw_p42 : lw_okq (⟨"GoodHalfEmpty", "lookAhead", "(II)V"⟩, 11) := ⟨⟨by decide +kernel, by decide +kernel⟩, List.mem_of_getElem? (i := 17) (by decide +kernel), List.mem_of_getElem? (i := 629) (by decide +kernel), List.mem_of_getElem? (i := 630) (by decide +kernel)⟩
theorem lw_p43 : lw_okq (⟨"GoodHalfEmpty$Rules", "lengthen", "(I)V"⟩, 4) := ⟨⟨by decide +kernel, by decide +kernel⟩, List.mem_of_getElem? (i := 79) (by decide +kernel), List.mem_of_getElem? (i := 633) (by decide +kernel), List.mem_of_getElem? (i := 634) (by decide +kernel)⟩
theorem lw_p44 : lw_okq (⟨"GoodHalfEmpty", "swingOf", "(I)I"⟩, 11) := ⟨⟨by decide +kernel, by decide +kernel⟩, List.mem_of_getElem? (i := 17) (by decide +kernel), List.mem_of_getElem? (i := 647) (by decide +kernel), List.mem_of_getElem? (i := 648) (by decide +kernel)⟩
theorem lw_p45 : lw_okq (⟨"GoodHalfEmpty", "comesAgainAfter", "(I)Z"⟩, 11) := ⟨⟨by decide +kernel, by decide +kernel⟩, List.mem_of_getElem? (i := 17) (by decide +kernel), List.mem_of_getElem? (i := 661) (by decide +kernel), List.mem_of_getElem? (i := 662) (by decide +kernel)⟩
theorem lw_p46 : lw_okq (⟨"GoodHalfEmpty", "gainsInMind", "(II)I"⟩, 11) := ⟨⟨by decide +kernel, by decide +kernel⟩, List.mem_of_getElem? (i := 17) (by decide +kernel), List.mem_of_getElem? (i := 669) (by decide +kernel), List.mem_of_getElem? (i := 670) (by decide +kernel)⟩
theorem lw_p47 : lw_okq (⟨"GoodHalfEmpty$Plans", "restingPlans", "(LGoodHalfEmpty$Sorts;II)I"⟩, 4) := ⟨⟨by decide +kernel, by decide +kernel⟩, List.mem_of_getElem? (i := 174) (by decide +kernel), List.mem_of_getElem? (i := 677) (by decide +kernel), List.mem_of_getElem? (i := 678) (by decide +kernel)⟩
def lw_privs_3 : List (MethodName × Nat) := [(⟨"GoodHalfEmpty$Town", "askRules", "()V"⟩, 9), (⟨"GoodHalfEmpty$Town", "askSorts", "()V"⟩, 9), (⟨"GoodHalfEmpty$Town", "wantsToGo", "(I)Z"⟩, 9), (⟨"GoodHalfEmpty$Rules", "mostRight", "(I)I"⟩, 4), (⟨"GoodHalfEmpty$Town", "settle", "(IZ)V"⟩, 9), (⟨"GoodHalfEmpty$Town", "isRight", "(I)Z"⟩, 9), (⟨"GoodHalfEmpty$Town", "decide", "()V"⟩, 9), (⟨"GoodHalfEmpty", "refuseWorth", "(I)I"⟩, 11), (⟨"GoodHalfEmpty$Town", "worthToAll", "()I"⟩, 9), (⟨"GoodHalfEmpty$Town", "worthToOne", "(I)I"⟩, 9), (⟨"GoodHalfEmpty", "lookAhead", "(II)V"⟩, 11), (⟨"GoodHalfEmpty$Rules", "lengthen", "(I)V"⟩, 4), (⟨"GoodHalfEmpty", "swingOf", "(I)I"⟩, 11), (⟨"GoodHalfEmpty", "comesAgainAfter", "(I)Z"⟩, 11), (⟨"GoodHalfEmpty", "gainsInMind", "(II)I"⟩, 11), (⟨"GoodHalfEmpty$Plans", "restingPlans", "(LGoodHalfEmpty$Sorts;II)I"⟩, 4)]
theorem lw_r3 : ∀ q ∈ lw_privs_3, lw_okq q := List.forall_mem_cons.mpr ⟨lw_p32, List.forall_mem_cons.mpr ⟨lw_p33, List.forall_mem_cons.mpr ⟨lw_p34, List.forall_mem_cons.mpr ⟨lw_p35, List.forall_mem_cons.mpr ⟨lw_p36, List.forall_mem_cons.mpr ⟨lw_p37, List.forall_mem_cons.mpr ⟨lw_p38, List.forall_mem_cons.mpr ⟨lw_p39, List.forall_mem_cons.mpr ⟨lw_p40, List.forall_mem_cons.mpr ⟨lw_p41, List.forall_mem_cons.mpr ⟨lw_p42, List.forall_mem_cons.mpr ⟨lw_p43, List.forall_mem_cons.mpr ⟨lw_p44, List.forall_mem_cons.mpr ⟨lw_p45, List.forall_mem_cons.mpr ⟨lw_p46, List.forall_mem_cons.mpr ⟨lw_p47, fun _ h => absurd h List.not_mem_nil⟩⟩⟩⟩⟩⟩⟩⟩⟩⟩⟩⟩⟩⟩⟩⟩
theorem lw_p48 : lw_okq (⟨"GoodHalfEmpty$Plans", "boxResting", "(LGoodHalfEmpty$Sorts;III)V"⟩, 4) := ⟨⟨by decide +kernel, by decide +kernel⟩, List.mem_of_getElem? (i := 174) (by decide +kernel), List.mem_of_getElem? (i := 681) (by decide +kernel), List.mem_of_getElem? (i := 682) (by decide +kernel)⟩
theorem lw_p49 : lw_okq (⟨"GoodHalfEmpty$Plans", "beginBand", "(II)V"⟩, 4) := ⟨⟨by decide +kernel, by decide +kernel⟩, List.mem_of_getElem? (i := 174) (by decide +kernel), List.mem_of_getElem? (i := 685) (by decide +kernel), List.mem_of_getElem? (i := 686) (by decide +kernel)⟩
theorem lw_p50 : lw_okq (⟨"GoodHalfEmpty$Box", "begin", "(II)V"⟩, 8) := ⟨⟨by decide +kernel, by decide +kernel⟩, List.mem_of_getElem? (i := 180) (by decide +kernel), List.mem_of_getElem? (i := 689) (by decide +kernel), List.mem_of_getElem? (i := 690) (by decide +kernel)⟩
theorem lw_p51 : lw_okq (⟨"GoodHalfEmpty$Box", "add", "(IIIII)V"⟩, 8) := ⟨⟨by decide +kernel, by decide +kernel⟩, List.mem_of_getElem? (i := 180) (by decide +kernel), List.mem_of_getElem? (i := 694) (by decide +kernel), List.mem_of_getElem? (i := 695) (by decide +kernel)⟩
theorem lw_p52 : lw_okq (⟨"GoodHalfEmpty$Box", "plans", "()I"⟩, 8) := ⟨⟨by decide +kernel, by decide +kernel⟩, List.mem_of_getElem? (i := 180) (by decide +kernel), List.mem_of_getElem? (i := 700) (by decide +kernel), List.mem_of_getElem? (i := 701) (by decide +kernel)⟩
theorem lw_p53 : lw_okq (⟨"GoodHalfEmpty$Box", "hasPlan", "()Z"⟩, 8) := ⟨⟨by decide +kernel, by decide +kernel⟩, List.mem_of_getElem? (i := 180) (by decide +kernel), List.mem_of_getElem? (i := 704) (by decide +kernel), List.mem_of_getElem? (i := 705) (by decide +kernel)⟩
theorem lw_p54 : lw_okq (⟨"GoodHalfEmpty$Box", "countWays", "()V"⟩, 8) := ⟨⟨by decide +kernel, by decide +kernel⟩, List.mem_of_getElem? (i := 180) (by decide +kernel), List.mem_of_getElem? (i := 709) (by decide +kernel), List.mem_of_getElem? (i := 710) (by decide +kernel)⟩
theorem lw_p55 : lw_okq (⟨"GoodHalfEmpty$Plans", "findFirstResting", "(LGoodHalfEmpty$Sorts;II)Z"⟩, 4) := ⟨⟨by decide +kernel, by decide +kernel⟩, List.mem_of_getElem? (i := 174) (by decide +kernel), List.mem_of_getElem? (i := 718) (by decide +kernel), List.mem_of_getElem? (i := 719) (by decide +kernel)⟩
theorem lw_p56 : lw_okq (⟨"GoodHalfEmpty$Plans", "offerFirst", "(I)V"⟩, 4) := ⟨⟨by decide +kernel, by decide +kernel⟩, List.mem_of_getElem? (i := 174) (by decide +kernel), List.mem_of_getElem? (i := 724) (by decide +kernel), List.mem_of_getElem? (i := 725) (by decide +kernel)⟩
theorem lw_p57 : lw_okq (⟨"GoodHalfEmpty$Box", "keepFirst", "(I)V"⟩, 8) := ⟨⟨by decide +kernel, by decide +kernel⟩, List.mem_of_getElem? (i := 180) (by decide +kernel), List.mem_of_getElem? (i := 728) (by decide +kernel), List.mem_of_getElem? (i := 729) (by decide +kernel)⟩
theorem lw_p58 : lw_okq (⟨"GoodHalfEmpty$Box", "greatestWorth", "()I"⟩, 8) := ⟨⟨by decide +kernel, by decide +kernel⟩, List.mem_of_getElem? (i := 180) (by decide +kernel), List.mem_of_getElem? (i := 733) (by decide +kernel), List.mem_of_getElem? (i := 734) (by decide +kernel)⟩
theorem lw_p59 : lw_okq (⟨"GoodHalfEmpty$Box", "greatestGain", "(I)I"⟩, 8) := ⟨⟨by decide +kernel, by decide +kernel⟩, List.mem_of_getElem? (i := 180) (by decide +kernel), List.mem_of_getElem? (i := 737) (by decide +kernel), List.mem_of_getElem? (i := 738) (by decide +kernel)⟩
theorem lw_p60 : lw_okq (⟨"GoodHalfEmpty$Plans", "isBoxBeforeFirst", "()Z"⟩, 4) := ⟨⟨by decide +kernel, by decide +kernel⟩, List.mem_of_getElem? (i := 174) (by decide +kernel), List.mem_of_getElem? (i := 741) (by decide +kernel), List.mem_of_getElem? (i := 742) (by decide +kernel)⟩
theorem lw_p61 : lw_okq (⟨"GoodHalfEmpty$Plans", "presentOfFirst", "()I"⟩, 4) := ⟨⟨by decide +kernel, by decide +kernel⟩, List.mem_of_getElem? (i := 174) (by decide +kernel), List.mem_of_getElem? (i := 746) (by decide +kernel), List.mem_of_getElem? (i := 747) (by decide +kernel)⟩
theorem lw_p62 : lw_okq (⟨"GoodHalfEmpty$Plans", "bestWorth", "(LGoodHalfEmpty$Sorts;II)I"⟩, 4) := ⟨⟨by decide +kernel, by decide +kernel⟩, List.mem_of_getElem? (i := 174) (by decide +kernel), List.mem_of_getElem? (i := 754) (by decide +kernel), List.mem_of_getElem? (i := 755) (by decide +kernel)⟩
theorem lw_p63 : lw_okq (⟨"GoodHalfEmpty$Plans", "boxAll", "(LGoodHalfEmpty$Sorts;III)V"⟩, 4) := ⟨⟨by decide +kernel, by decide +kernel⟩, List.mem_of_getElem? (i := 174) (by decide +kernel), List.mem_of_getElem? (i := 758) (by decide +kernel), List.mem_of_getElem? (i := 759) (by decide +kernel)⟩
def lw_privs_4 : List (MethodName × Nat) := [(⟨"GoodHalfEmpty$Plans", "boxResting", "(LGoodHalfEmpty$Sorts;III)V"⟩, 4), (⟨"GoodHalfEmpty$Plans", "beginBand", "(II)V"⟩, 4), (⟨"GoodHalfEmpty$Box", "begin", "(II)V"⟩, 8), (⟨"GoodHalfEmpty$Box", "add", "(IIIII)V"⟩, 8), (⟨"GoodHalfEmpty$Box", "plans", "()I"⟩, 8), (⟨"GoodHalfEmpty$Box", "hasPlan", "()Z"⟩, 8), (⟨"GoodHalfEmpty$Box", "countWays", "()V"⟩, 8), (⟨"GoodHalfEmpty$Plans", "findFirstResting", "(LGoodHalfEmpty$Sorts;II)Z"⟩, 4), (⟨"GoodHalfEmpty$Plans", "offerFirst", "(I)V"⟩, 4), (⟨"GoodHalfEmpty$Box", "keepFirst", "(I)V"⟩, 8), (⟨"GoodHalfEmpty$Box", "greatestWorth", "()I"⟩, 8), (⟨"GoodHalfEmpty$Box", "greatestGain", "(I)I"⟩, 8), (⟨"GoodHalfEmpty$Plans", "isBoxBeforeFirst", "()Z"⟩, 4), (⟨"GoodHalfEmpty$Plans", "presentOfFirst", "()I"⟩, 4), (⟨"GoodHalfEmpty$Plans", "bestWorth", "(LGoodHalfEmpty$Sorts;II)I"⟩, 4), (⟨"GoodHalfEmpty$Plans", "boxAll", "(LGoodHalfEmpty$Sorts;III)V"⟩, 4)]
theorem lw_r4 : ∀ q ∈ lw_privs_4, lw_okq q := List.forall_mem_cons.mpr ⟨lw_p48, List.forall_mem_cons.mpr ⟨lw_p49, List.forall_mem_cons.mpr ⟨lw_p50, List.forall_mem_cons.mpr ⟨lw_p51, List.forall_mem_cons.mpr ⟨lw_p52, List.forall_mem_cons.mpr ⟨lw_p53, List.forall_mem_cons.mpr ⟨lw_p54, List.forall_mem_cons.mpr ⟨lw_p55, List.forall_mem_cons.mpr ⟨lw_p56, List.forall_mem_cons.mpr ⟨lw_p57, List.forall_mem_cons.mpr ⟨lw_p58, List.forall_mem_cons.mpr ⟨lw_p59, List.forall_mem_cons.mpr ⟨lw_p60, List.forall_mem_cons.mpr ⟨lw_p61, List.forall_mem_cons.mpr ⟨lw_p62, List.forall_mem_cons.mpr ⟨lw_p63, fun _ h => absurd h List.not_mem_nil⟩⟩⟩⟩⟩⟩⟩⟩⟩⟩⟩⟩⟩⟩⟩⟩
theorem lw_p64 : lw_okq (⟨"GoodHalfEmpty$Plans", "findFirstBest", "(LGoodHalfEmpty$Sorts;II)V"⟩, 4) := ⟨⟨by decide +kernel, by decide +kernel⟩, List.mem_of_getElem? (i := 174) (by decide +kernel), List.mem_of_getElem? (i := 764) (by decide +kernel), List.mem_of_getElem? (i := 765) (by decide +kernel)⟩
theorem lw_p65 : lw_okq (⟨"GoodHalfEmpty$Plans", "bestRestingWorth", "(LGoodHalfEmpty$Sorts;II)I"⟩, 4) := ⟨⟨by decide +kernel, by decide +kernel⟩, List.mem_of_getElem? (i := 174) (by decide +kernel), List.mem_of_getElem? (i := 773) (by decide +kernel), List.mem_of_getElem? (i := 774) (by decide +kernel)⟩
theorem lw_p66 : lw_okq (⟨"GoodHalfEmpty", "tallyRight", "(I)V"⟩, 11) := ⟨⟨by decide +kernel, by decide +kernel⟩, List.mem_of_getElem? (i := 17) (by decide +kernel), List.mem_of_getElem? (i := 795) (by decide +kernel), List.mem_of_getElem? (i := 796) (by decide +kernel)⟩
theorem lw_p67 : lw_okq (⟨"GoodHalfEmpty$Town", "drawMemory", "(I)I"⟩, 9) := ⟨⟨by decide +kernel, by decide +kernel⟩, List.mem_of_getElem? (i := 25) (by decide +kernel), List.mem_of_getElem? (i := 808) (by decide +kernel), List.mem_of_getElem? (i := 809) (by decide +kernel)⟩
theorem lw_p68 : lw_okq (⟨"GoodHalfEmptyModel", "no", "(I)I"⟩, 27) := ⟨⟨by decide +kernel, by decide +kernel⟩, List.mem_of_getElem? (i := 849) (by decide +kernel), List.mem_of_getElem? (i := 847) (by decide +kernel), List.mem_of_getElem? (i := 848) (by decide +kernel)⟩
theorem lw_p69 : lw_okq (⟨"GoodHalfEmptyModel", "read", "()I"⟩, 27) := ⟨⟨by decide +kernel, by decide +kernel⟩, List.mem_of_getElem? (i := 849) (by decide +kernel), List.mem_of_getElem? (i := 949) (by decide +kernel), List.mem_of_getElem? (i := 950) (by decide +kernel)⟩
theorem lw_p70 : lw_okq (⟨"GoodHalfEmptyModel", "statement", "()V"⟩, 27) := ⟨⟨by decide +kernel, by decide +kernel⟩, List.mem_of_getElem? (i := 849) (by decide +kernel), List.mem_of_getElem? (i := 953) (by decide +kernel), List.mem_of_getElem? (i := 954) (by decide +kernel)⟩
theorem lw_p71 : lw_okq (⟨"GoodHalfEmptyModel", "oneOf", "([C)I"⟩, 27) := ⟨⟨by decide +kernel, by decide +kernel⟩, List.mem_of_getElem? (i := 849) (by decide +kernel), List.mem_of_getElem? (i := 957) (by decide +kernel), List.mem_of_getElem? (i := 958) (by decide +kernel)⟩
theorem lw_p72 : lw_okq (⟨"GoodHalfEmptyModel", "figures", "(I)I"⟩, 27) := ⟨⟨by decide +kernel, by decide +kernel⟩, List.mem_of_getElem? (i := 849) (by decide +kernel), List.mem_of_getElem? (i := 961) (by decide +kernel), List.mem_of_getElem? (i := 962) (by decide +kernel)⟩
theorem lw_p73 : lw_okq (⟨"GoodHalfEmptyModel", "expect", "(C)V"⟩, 27) := ⟨⟨by decide +kernel, by decide +kernel⟩, List.mem_of_getElem? (i := 849) (by decide +kernel), List.mem_of_getElem? (i := 965) (by decide +kernel), List.mem_of_getElem? (i := 966) (by decide +kernel)⟩
theorem lw_p74 : lw_okq (⟨"GoodHalfEmptyModel", "isAsItMustBe", "(II)Z"⟩, 27) := ⟨⟨by decide +kernel, by decide +kernel⟩, List.mem_of_getElem? (i := 849) (by decide +kernel), List.mem_of_getElem? (i := 969) (by decide +kernel), List.mem_of_getElem? (i := 970) (by decide +kernel)⟩
theorem lw_p75 : lw_okq (⟨"GoodHalfEmptyModel", "come", "()V"⟩, 27) := ⟨⟨by decide +kernel, by decide +kernel⟩, List.mem_of_getElem? (i := 849) (by decide +kernel), List.mem_of_getElem? (i := 973) (by decide +kernel), List.mem_of_getElem? (i := 974) (by decide +kernel)⟩
theorem lw_p76 : lw_okq (⟨"GoodHalfEmptyModel", "remember", "(I)V"⟩, 27) := ⟨⟨by decide +kernel, by decide +kernel⟩, List.mem_of_getElem? (i := 849) (by decide +kernel), List.mem_of_getElem? (i := 977) (by decide +kernel), List.mem_of_getElem? (i := 978) (by decide +kernel)⟩
theorem lw_p77 : lw_okq (⟨"GoodHalfEmptyModel", "isNoSort", "(I)Z"⟩, 27) := ⟨⟨by decide +kernel, by decide +kernel⟩, List.mem_of_getElem? (i := 849) (by decide +kernel), List.mem_of_getElem? (i := 985) (by decide +kernel), List.mem_of_getElem? (i := 986) (by decide +kernel)⟩
theorem lw_p78 : lw_okq (⟨"GoodHalfEmptyModel", "of", "(II)I"⟩, 27) := ⟨⟨by decide +kernel, by decide +kernel⟩, List.mem_of_getElem? (i := 849) (by decide +kernel), List.mem_of_getElem? (i := 989) (by decide +kernel), List.mem_of_getElem? (i := 990) (by decide +kernel)⟩
theorem lw_p79 : lw_okq (⟨"GoodHalfEmptyModel", "foretold", "(II)I"⟩, 27) := ⟨⟨by decide +kernel, by decide +kernel⟩, List.mem_of_getElem? (i := 849) (by decide +kernel), List.mem_of_getElem? (i := 997) (by decide +kernel), List.mem_of_getElem? (i := 998) (by decide +kernel)⟩
def lw_privs_5 : List (MethodName × Nat) := [(⟨"GoodHalfEmpty$Plans", "findFirstBest", "(LGoodHalfEmpty$Sorts;II)V"⟩, 4), (⟨"GoodHalfEmpty$Plans", "bestRestingWorth", "(LGoodHalfEmpty$Sorts;II)I"⟩, 4), (⟨"GoodHalfEmpty", "tallyRight", "(I)V"⟩, 11), (⟨"GoodHalfEmpty$Town", "drawMemory", "(I)I"⟩, 9), (⟨"GoodHalfEmptyModel", "no", "(I)I"⟩, 27), (⟨"GoodHalfEmptyModel", "read", "()I"⟩, 27), (⟨"GoodHalfEmptyModel", "statement", "()V"⟩, 27), (⟨"GoodHalfEmptyModel", "oneOf", "([C)I"⟩, 27), (⟨"GoodHalfEmptyModel", "figures", "(I)I"⟩, 27), (⟨"GoodHalfEmptyModel", "expect", "(C)V"⟩, 27), (⟨"GoodHalfEmptyModel", "isAsItMustBe", "(II)Z"⟩, 27), (⟨"GoodHalfEmptyModel", "come", "()V"⟩, 27), (⟨"GoodHalfEmptyModel", "remember", "(I)V"⟩, 27), (⟨"GoodHalfEmptyModel", "isNoSort", "(I)Z"⟩, 27), (⟨"GoodHalfEmptyModel", "of", "(II)I"⟩, 27), (⟨"GoodHalfEmptyModel", "foretold", "(II)I"⟩, 27)]
theorem lw_r5 : ∀ q ∈ lw_privs_5, lw_okq q := List.forall_mem_cons.mpr ⟨lw_p64, List.forall_mem_cons.mpr ⟨lw_p65, List.forall_mem_cons.mpr ⟨lw_p66, List.forall_mem_cons.mpr ⟨lw_p67, List.forall_mem_cons.mpr ⟨lw_p68, List.forall_mem_cons.mpr ⟨lw_p69, List.forall_mem_cons.mpr ⟨lw_p70, List.forall_mem_cons.mpr ⟨lw_p71, List.forall_mem_cons.mpr ⟨lw_p72, List.forall_mem_cons.mpr ⟨lw_p73, List.forall_mem_cons.mpr ⟨lw_p74, List.forall_mem_cons.mpr ⟨lw_p75, List.forall_mem_cons.mpr ⟨lw_p76, List.forall_mem_cons.mpr ⟨lw_p77, List.forall_mem_cons.mpr ⟨lw_p78, List.forall_mem_cons.mpr ⟨lw_p79, fun _ h => absurd h List.not_mem_nil⟩⟩⟩⟩⟩⟩⟩⟩⟩⟩⟩⟩⟩⟩⟩⟩
theorem lw_p80 : lw_okq (⟨"GoodHalfEmptyModel", "ago", "(I)I"⟩, 27) := ⟨⟨by decide +kernel, by decide +kernel⟩, List.mem_of_getElem? (i := 849) (by decide +kernel), List.mem_of_getElem? (i := 1001) (by decide +kernel), List.mem_of_getElem? (i := 1002) (by decide +kernel)⟩
theorem lw_p81 : lw_okq (⟨"GoodHalfEmptyModel", "people", "()I"⟩, 27) := ⟨⟨by decide +kernel, by decide +kernel⟩, List.mem_of_getElem? (i := 849) (by decide +kernel), List.mem_of_getElem? (i := 1005) (by decide +kernel), List.mem_of_getElem? (i := 1006) (by decide +kernel)⟩
theorem lw_p82 : lw_okq (⟨"GoodHalfEmptyModel", "goOn", "()I"⟩, 27) := ⟨⟨by decide +kernel, by decide +kernel⟩, List.mem_of_getElem? (i := 849) (by decide +kernel), List.mem_of_getElem? (i := 1022) (by decide +kernel), List.mem_of_getElem? (i := 1023) (by decide +kernel)⟩
theorem lw_p83 : lw_okq (⟨"GoodHalfEmptyModel", "present", "()I"⟩, 27) := ⟨⟨by decide +kernel, by decide +kernel⟩, List.mem_of_getElem? (i := 849) (by decide +kernel), List.mem_of_getElem? (i := 1026) (by decide +kernel), List.mem_of_getElem? (i := 1027) (by decide +kernel)⟩
theorem lw_p84 : lw_okq (⟨"GoodHalfEmptyModel", "isRoom", "(I)Z"⟩, 27) := ⟨⟨by decide +kernel, by decide +kernel⟩, List.mem_of_getElem? (i := 849) (by decide +kernel), List.mem_of_getElem? (i := 1030) (by decide +kernel), List.mem_of_getElem? (i := 1031) (by decide +kernel)⟩
theorem lw_p85 : lw_okq (⟨"GoodHalfEmptyModel", "hat", "(I)I"⟩, 27) := ⟨⟨by decide +kernel, by decide +kernel⟩, List.mem_of_getElem? (i := 849) (by decide +kernel), List.mem_of_getElem? (i := 1034) (by decide +kernel), List.mem_of_getElem? (i := 1035) (by decide +kernel)⟩
theorem lw_p86 : lw_okq (⟨"GoodHalfEmptyModel", "worthNext", "(II)I"⟩, 27) := ⟨⟨by decide +kernel, by decide +kernel⟩, List.mem_of_getElem? (i := 849) (by decide +kernel), List.mem_of_getElem? (i := 1051) (by decide +kernel), List.mem_of_getElem? (i := 1052) (by decide +kernel)⟩
theorem lw_p87 : lw_okq (⟨"GoodHalfEmptyModel", "worthGone", "(II)I"⟩, 27) := ⟨⟨by decide +kernel, by decide +kernel⟩, List.mem_of_getElem? (i := 849) (by decide +kernel), List.mem_of_getElem? (i := 1055) (by decide +kernel), List.mem_of_getElem? (i := 1056) (by decide +kernel)⟩
theorem lw_p88 : lw_okq (⟨"GoodHalfEmptyModel", "isWrong", "(II)I"⟩, 27) := ⟨⟨by decide +kernel, by decide +kernel⟩, List.mem_of_getElem? (i := 849) (by decide +kernel), List.mem_of_getElem? (i := 1063) (by decide +kernel), List.mem_of_getElem? (i := 1064) (by decide +kernel)⟩
theorem lw_p89 : lw_okq (⟨"GoodHalfEmptyModel", "goAhead", "(II)I"⟩, 27) := ⟨⟨by decide +kernel, by decide +kernel⟩, List.mem_of_getElem? (i := 849) (by decide +kernel), List.mem_of_getElem? (i := 1067) (by decide +kernel), List.mem_of_getElem? (i := 1068) (by decide +kernel)⟩
theorem lw_p90 : lw_okq (⟨"GoodHalfEmptyModel", "swungIn", "(I)I"⟩, 27) := ⟨⟨by decide +kernel, by decide +kernel⟩, List.mem_of_getElem? (i := 849) (by decide +kernel), List.mem_of_getElem? (i := 1079) (by decide +kernel), List.mem_of_getElem? (i := 1080) (by decide +kernel)⟩
theorem lw_p91 : lw_okq (⟨"GoodHalfEmptyModel", "goThrough", "()V"⟩, 27) := ⟨⟨by decide +kernel, by decide +kernel⟩, List.mem_of_getElem? (i := 849) (by decide +kernel), List.mem_of_getElem? (i := 1100) (by decide +kernel), List.mem_of_getElem? (i := 1101) (by decide +kernel)⟩
theorem lw_p92 : lw_okq (⟨"GoodHalfEmptyModel", "begin", "()V"⟩, 27) := ⟨⟨by decide +kernel, by decide +kernel⟩, List.mem_of_getElem? (i := 849) (by decide +kernel), List.mem_of_getElem? (i := 1104) (by decide +kernel), List.mem_of_getElem? (i := 1105) (by decide +kernel)⟩
theorem lw_p93 : lw_okq (⟨"GoodHalfEmptyModel", "isAtRest", "(I)Z"⟩, 27) := ⟨⟨by decide +kernel, by decide +kernel⟩, List.mem_of_getElem? (i := 849) (by decide +kernel), List.mem_of_getElem? (i := 1108) (by decide +kernel), List.mem_of_getElem? (i := 1109) (by decide +kernel)⟩
theorem lw_p94 : lw_okq (⟨"GoodHalfEmptyModel", "isNextPlan", "()Z"⟩, 27) := ⟨⟨by decide +kernel, by decide +kernel⟩, List.mem_of_getElem? (i := 849) (by decide +kernel), List.mem_of_getElem? (i := 1112) (by decide +kernel), List.mem_of_getElem? (i := 1113) (by decide +kernel)⟩
def lw_privs_6 : List (MethodName × Nat) := [(⟨"GoodHalfEmptyModel", "ago", "(I)I"⟩, 27), (⟨"GoodHalfEmptyModel", "people", "()I"⟩, 27), (⟨"GoodHalfEmptyModel", "goOn", "()I"⟩, 27), (⟨"GoodHalfEmptyModel", "present", "()I"⟩, 27), (⟨"GoodHalfEmptyModel", "isRoom", "(I)Z"⟩, 27), (⟨"GoodHalfEmptyModel", "hat", "(I)I"⟩, 27), (⟨"GoodHalfEmptyModel", "worthNext", "(II)I"⟩, 27), (⟨"GoodHalfEmptyModel", "worthGone", "(II)I"⟩, 27), (⟨"GoodHalfEmptyModel", "isWrong", "(II)I"⟩, 27), (⟨"GoodHalfEmptyModel", "goAhead", "(II)I"⟩, 27), (⟨"GoodHalfEmptyModel", "swungIn", "(I)I"⟩, 27), (⟨"GoodHalfEmptyModel", "goThrough", "()V"⟩, 27), (⟨"GoodHalfEmptyModel", "begin", "()V"⟩, 27), (⟨"GoodHalfEmptyModel", "isAtRest", "(I)Z"⟩, 27), (⟨"GoodHalfEmptyModel", "isNextPlan", "()Z"⟩, 27)]
theorem lw_r6 : ∀ q ∈ lw_privs_6, lw_okq q := List.forall_mem_cons.mpr ⟨lw_p80, List.forall_mem_cons.mpr ⟨lw_p81, List.forall_mem_cons.mpr ⟨lw_p82, List.forall_mem_cons.mpr ⟨lw_p83, List.forall_mem_cons.mpr ⟨lw_p84, List.forall_mem_cons.mpr ⟨lw_p85, List.forall_mem_cons.mpr ⟨lw_p86, List.forall_mem_cons.mpr ⟨lw_p87, List.forall_mem_cons.mpr ⟨lw_p88, List.forall_mem_cons.mpr ⟨lw_p89, List.forall_mem_cons.mpr ⟨lw_p90, List.forall_mem_cons.mpr ⟨lw_p91, List.forall_mem_cons.mpr ⟨lw_p92, List.forall_mem_cons.mpr ⟨lw_p93, List.forall_mem_cons.mpr ⟨lw_p94, fun _ h => absurd h List.not_mem_nil⟩⟩⟩⟩⟩⟩⟩⟩⟩⟩⟩⟩⟩⟩⟩
def lw_privs : List (MethodName × Nat) := lw_privs_1 ++ (lw_privs_2 ++ (lw_privs_3 ++ (lw_privs_4 ++ (lw_privs_5 ++ (lw_privs_6)))))
def lw_tbl : List Cond := k2_sels lw_privs ++ tables_1
theorem lw_privs_ok : ∀ q ∈ lw_privs, lw_okq q := by
  show ∀ q ∈ lw_privs_1 ++ (lw_privs_2 ++ (lw_privs_3 ++ (lw_privs_4 ++ (lw_privs_5 ++ (lw_privs_6))))), lw_okq q
  exact List.forall_mem_append.mpr ⟨lw_r1, List.forall_mem_append.mpr ⟨lw_r2, List.forall_mem_append.mpr ⟨lw_r3, List.forall_mem_append.mpr ⟨lw_r4, List.forall_mem_append.mpr ⟨lw_r5, lw_r6⟩⟩⟩⟩⟩
-- ===== end of PART A; then your names; then what follows =====
def RX0 : String := "GoodHalfEmpty$Box"
def TX0 : u_T := fun k => match k with
  | 0 => ("GoodHalfEmpty$Box", "least", "[I", true)
  | 1 => ("GoodHalfEmpty$Box", "most", "[I", true)
  | 2 => ("GoodHalfEmpty$Box", "gain", "[I", true)
  | 3 => ("GoodHalfEmpty$Box", "ways", "[I", true)
  | 4 => ("GoodHalfEmpty$Box", "size", "I", false)
  | 5 => ("GoodHalfEmpty$Box", "from", "I", false)
  | 6 => ("GoodHalfEmpty$Box", "to", "I", false)
  | _ => ("GoodHalfEmpty$Box", "worthIfNobodyGoes", "I", false)
def tyX0 : Nat → FieldType := fun k => match k with
  | 0 => .array .int
  | 1 => .array .int
  | 2 => .array .int
  | 3 => .array .int
  | 4 => .int
  | 5 => .int
  | 6 => .int
  | _ => .int
abbrev wsX00 : List Cond := u_ws RX0 TX0 8
theorem nmX0 : ∀ a, a < 8 → ∀ b, b < 8 → a ≠ b → (TX0 a).2.1 ≠ (TX0 b).2.1 := by decide +kernel
theorem tyX0_ok : ∀ k, k < 8 → parseFieldDescriptor (TX0 k).2.2.1 = some (tyX0 k) := by decide +kernel
abbrev cX0_init : ByteArray := prog_2_method_1_code
def yX0_init : MethodName := ⟨RX0, "<init>", "()V"⟩
abbrev cX0_begin : ByteArray := prog_2_method_2_code
def yX0_begin : MethodName := ⟨RX0, "begin", "(II)V"⟩
abbrev cX0_add : ByteArray := prog_2_method_3_code
def yX0_add : MethodName := ⟨RX0, "add", "(IIIII)V"⟩
abbrev cX0_hasPlan : ByteArray := prog_2_method_4_code
def yX0_hasPlan : MethodName := ⟨RX0, "hasPlan", "()Z"⟩
abbrev cX0_plans : ByteArray := prog_2_method_5_code
def yX0_plans : MethodName := ⟨RX0, "plans", "()I"⟩
abbrev cX0_countWays : ByteArray := prog_2_method_6_code
def yX0_countWays : MethodName := ⟨RX0, "countWays", "()V"⟩
abbrev cX0_greatestWorth : ByteArray := prog_2_method_7_code
def yX0_greatestWorth : MethodName := ⟨RX0, "greatestWorth", "()I"⟩
abbrev cX0_greatestGain : ByteArray := prog_2_method_8_code
def yX0_greatestGain : MethodName := ⟨RX0, "greatestGain", "(I)I"⟩
abbrev cX0_keepFirst : ByteArray := prog_2_method_9_code
def yX0_keepFirst : MethodName := ⟨RX0, "keepFirst", "(I)V"⟩
def RX1 : String := "GoodHalfEmpty$Memory"
def TX1 : u_T := fun k => match k with
  | 0 => ("GoodHalfEmpty$Memory", "weeks", "[I", true)
  | _ => ("GoodHalfEmpty$Memory", "size", "I", false)
def tyX1 : Nat → FieldType := fun k => match k with
  | 0 => .array .int
  | _ => .int
abbrev wsX10 : List Cond := u_ws RX1 TX1 2
theorem nmX1 : ∀ a, a < 2 → ∀ b, b < 2 → a ≠ b → (TX1 a).2.1 ≠ (TX1 b).2.1 := by decide +kernel
theorem tyX1_ok : ∀ k, k < 2 → parseFieldDescriptor (TX1 k).2.2.1 = some (tyX1 k) := by decide +kernel
abbrev cX1_init : ByteArray := prog_3_method_1_code
def yX1_init : MethodName := ⟨RX1, "<init>", "()V"⟩
abbrev cX1_copyFrom : ByteArray := prog_3_method_2_code
def yX1_copyFrom : MethodName := ⟨RX1, "copyFrom", "(LGoodHalfEmpty$Memory;)V"⟩
abbrev cX1_add : ByteArray := prog_3_method_3_code
def yX1_add : MethodName := ⟨RX1, "add", "(I)V"⟩
def RX2 : String := "GoodHalfEmpty$Plans"
def TX2 : u_T := fun k => match k with
  | 0 => ("GoodHalfEmpty$Plans", "box", "LGoodHalfEmpty$Box;", true)
  | 1 => ("GoodHalfEmpty$Plans", "first", "[I", true)
  | 2 => ("GoodHalfEmpty$Plans", "sortsOfFirst", "I", false)
  | _ => ("GoodHalfEmpty$Plans", "hasFirst", "Z", false)
def tyX2 : Nat → FieldType := fun k => match k with
  | 0 => .object "GoodHalfEmpty$Box"
  | 1 => .array .int
  | 2 => .int
  | _ => .boolean
abbrev wsX20 : List Cond := u_ws RX2 TX2 4
theorem nmX2 : ∀ a, a < 4 → ∀ b, b < 4 → a ≠ b → (TX2 a).2.1 ≠ (TX2 b).2.1 := by decide +kernel
theorem tyX2_ok : ∀ k, k < 4 → parseFieldDescriptor (TX2 k).2.2.1 = some (tyX2 k) := by decide +kernel
abbrev cX2_init : ByteArray := prog_4_method_1_code
def yX2_init : MethodName := ⟨RX2, "<init>", "()V"⟩
abbrev cX2_restingPlans : ByteArray := prog_4_method_2_code
def yX2_restingPlans : MethodName := ⟨RX2, "restingPlans", "(LGoodHalfEmpty$Sorts;II)I"⟩
abbrev cX2_findFirstResting : ByteArray := prog_4_method_3_code
def yX2_findFirstResting : MethodName := ⟨RX2, "findFirstResting", "(LGoodHalfEmpty$Sorts;II)Z"⟩
abbrev cX2_bestRestingWorth : ByteArray := prog_4_method_4_code
def yX2_bestRestingWorth : MethodName := ⟨RX2, "bestRestingWorth", "(LGoodHalfEmpty$Sorts;II)I"⟩
abbrev cX2_bestWorth : ByteArray := prog_4_method_5_code
def yX2_bestWorth : MethodName := ⟨RX2, "bestWorth", "(LGoodHalfEmpty$Sorts;II)I"⟩
abbrev cX2_findFirstBest : ByteArray := prog_4_method_6_code
def yX2_findFirstBest : MethodName := ⟨RX2, "findFirstBest", "(LGoodHalfEmpty$Sorts;II)V"⟩
abbrev cX2_presentOfFirst : ByteArray := prog_4_method_7_code
def yX2_presentOfFirst : MethodName := ⟨RX2, "presentOfFirst", "()I"⟩
abbrev cX2_offerFirst : ByteArray := prog_4_method_8_code
def yX2_offerFirst : MethodName := ⟨RX2, "offerFirst", "(I)V"⟩
abbrev cX2_isBoxBeforeFirst : ByteArray := prog_4_method_9_code
def yX2_isBoxBeforeFirst : MethodName := ⟨RX2, "isBoxBeforeFirst", "()Z"⟩
abbrev cX2_beginBand : ByteArray := prog_4_method_10_code
def yX2_beginBand : MethodName := ⟨RX2, "beginBand", "(II)V"⟩
abbrev cX2_boxAll : ByteArray := prog_4_method_11_code
def yX2_boxAll : MethodName := ⟨RX2, "boxAll", "(LGoodHalfEmpty$Sorts;III)V"⟩
abbrev cX2_boxResting : ByteArray := prog_4_method_12_code
def yX2_boxResting : MethodName := ⟨RX2, "boxResting", "(LGoodHalfEmpty$Sorts;III)V"⟩
def RX3 : String := "GoodHalfEmpty$Rules"
def TX3 : u_T := fun k => match k with
  | 0 => ("GoodHalfEmpty$Rules", "kind", "[I", true)
  | 1 => ("GoodHalfEmpty$Rules", "span", "[I", true)
  | 2 => ("GoodHalfEmpty$Rules", "right", "[I", true)
  | _ => ("GoodHalfEmpty$Rules", "size", "I", false)
def tyX3 : Nat → FieldType := fun k => match k with
  | 0 => .array .int
  | 1 => .array .int
  | 2 => .array .int
  | _ => .int
abbrev wsX30 : List Cond := u_ws RX3 TX3 4
theorem nmX3 : ∀ a, a < 4 → ∀ b, b < 4 → a ≠ b → (TX3 a).2.1 ≠ (TX3 b).2.1 := by decide +kernel
theorem tyX3_ok : ∀ k, k < 4 → parseFieldDescriptor (TX3 k).2.2.1 = some (tyX3 k) := by decide +kernel
abbrev cX3_init : ByteArray := prog_5_method_1_code
def yX3_init : MethodName := ⟨RX3, "<init>", "()V"⟩
abbrev cX3_copyFrom : ByteArray := prog_5_method_2_code
def yX3_copyFrom : MethodName := ⟨RX3, "copyFrom", "(LGoodHalfEmpty$Rules;)V"⟩
abbrev cX3_has : ByteArray := prog_5_method_3_code
def yX3_has : MethodName := ⟨RX3, "has", "(I)Z"⟩
abbrev cX3_add : ByteArray := prog_5_method_4_code
def yX3_add : MethodName := ⟨RX3, "add", "(II)Z"⟩
abbrev cX3_mostRight : ByteArray := prog_5_method_5_code
def yX3_mostRight : MethodName := ⟨RX3, "mostRight", "(I)I"⟩
abbrev cX3_lengthen : ByteArray := prog_5_method_6_code
def yX3_lengthen : MethodName := ⟨RX3, "lengthen", "(I)V"⟩
def RX4 : String := "GoodHalfEmpty$Sorts"
def TX4 : u_T := fun k => match k with
  | 0 => ("GoodHalfEmpty$Sorts", "many", "[I", true)
  | 1 => ("GoodHalfEmpty$Sorts", "kind", "[I", true)
  | 2 => ("GoodHalfEmpty$Sorts", "figure", "[I", true)
  | 3 => ("GoodHalfEmpty$Sorts", "few", "[I", true)
  | 4 => ("GoodHalfEmpty$Sorts", "full", "[I", true)
  | 5 => ("GoodHalfEmpty$Sorts", "home", "[I", true)
  | _ => ("GoodHalfEmpty$Sorts", "size", "I", false)
def tyX4 : Nat → FieldType := fun k => match k with
  | 0 => .array .int
  | 1 => .array .int
  | 2 => .array .int
  | 3 => .array .int
  | 4 => .array .int
  | 5 => .array .int
  | _ => .int
abbrev wsX40 : List Cond := u_ws RX4 TX4 7
theorem nmX4 : ∀ a, a < 7 → ∀ b, b < 7 → a ≠ b → (TX4 a).2.1 ≠ (TX4 b).2.1 := by decide +kernel
theorem tyX4_ok : ∀ k, k < 7 → parseFieldDescriptor (TX4 k).2.2.1 = some (tyX4 k) := by decide +kernel
abbrev cX4_init : ByteArray := prog_6_method_1_code
def yX4_init : MethodName := ⟨RX4, "<init>", "()V"⟩
abbrev cX4_copyFrom : ByteArray := prog_6_method_2_code
def yX4_copyFrom : MethodName := ⟨RX4, "copyFrom", "(LGoodHalfEmpty$Sorts;)V"⟩
abbrev cX4_has : ByteArray := prog_6_method_3_code
def yX4_has : MethodName := ⟨RX4, "has", "(I)Z"⟩
abbrev cX4_add : ByteArray := prog_6_method_4_code
def yX4_add : MethodName := ⟨RX4, "add", "(IIIIII)Z"⟩
abbrev cX4_people : ByteArray := prog_6_method_5_code
def yX4_people : MethodName := ⟨RX4, "people", "()I"⟩
def RX5 : String := "GoodHalfEmpty$Text"
def TX5 : u_T := fun k => match k with
  | 0 => ("GoodHalfEmpty$Text", "letters", "[I", true)
  | _ => ("GoodHalfEmpty$Text", "size", "I", false)
def tyX5 : Nat → FieldType := fun k => match k with
  | 0 => .array .int
  | _ => .int
abbrev wsX50 : List Cond := u_ws RX5 TX5 2
theorem nmX5 : ∀ a, a < 2 → ∀ b, b < 2 → a ≠ b → (TX5 a).2.1 ≠ (TX5 b).2.1 := by decide +kernel
theorem tyX5_ok : ∀ k, k < 2 → parseFieldDescriptor (TX5 k).2.2.1 = some (tyX5 k) := by decide +kernel
abbrev cX5_init : ByteArray := prog_7_method_1_code
def yX5_init : MethodName := ⟨RX5, "<init>", "()V"⟩
abbrev cX5_add : ByteArray := prog_7_method_2_code
def yX5_add : MethodName := ⟨RX5, "add", "(I)I"⟩
abbrev cX5_clear : ByteArray := prog_7_method_3_code
def yX5_clear : MethodName := ⟨RX5, "clear", "()V"⟩
abbrev cX5_tellTo : ByteArray := prog_7_method_4_code
def yX5_tellTo : MethodName := ⟨RX5, "tellTo", "(LGoodHalfEmpty$Town;)I"⟩
abbrev cX5_badPlace : ByteArray := prog_7_method_5_code
def yX5_badPlace : MethodName := ⟨RX5, "badPlace", "()I"⟩
abbrev cX5_formAt : ByteArray := prog_7_method_6_code
def yX5_formAt : MethodName := ⟨RX5, "formAt", "(I)Ljava/lang/String;"⟩
abbrev cX5_numberForm : ByteArray := prog_7_method_7_code
def yX5_numberForm : MethodName := ⟨RX5, "numberForm", "(I)Ljava/lang/String;"⟩
abbrev cX5_fits : ByteArray := prog_7_method_8_code
def yX5_fits : MethodName := ⟨RX5, "fits", "(IC)Z"⟩
abbrev cX5_tellStatement : ByteArray := prog_7_method_9_code
def yX5_tellStatement : MethodName := ⟨RX5, "tellStatement", "(LGoodHalfEmpty$Town;I)Z"⟩
abbrev cX5_tellSort : ByteArray := prog_7_method_10_code
def yX5_tellSort : MethodName := ⟨RX5, "tellSort", "(LGoodHalfEmpty$Town;I)Z"⟩
abbrev cX5_letterAt : ByteArray := prog_7_method_11_code
def yX5_letterAt : MethodName := ⟨RX5, "letterAt", "(I)I"⟩
abbrev cX5_isDigit : ByteArray := prog_7_method_12_code
def yX5_isDigit : MethodName := ⟨RX5, "isDigit", "(I)Z"⟩
abbrev cX5_digitAt : ByteArray := prog_7_method_13_code
def yX5_digitAt : MethodName := ⟨RX5, "digitAt", "(I)I"⟩
abbrev cX5_numberAt : ByteArray := prog_7_method_14_code
def yX5_numberAt : MethodName := ⟨RX5, "numberAt", "(I)I"⟩
abbrev cX5_kindAt : ByteArray := prog_7_method_15_code
def yX5_kindAt : MethodName := ⟨RX5, "kindAt", "(ILjava/lang/String;)I"⟩
def RX6 : String := "GoodHalfEmpty$Town"
def TX6 : u_T := fun k => match k with
  | 0 => ("GoodHalfEmpty$Town", "sorts", "LGoodHalfEmpty$Sorts;", true)
  | 1 => ("GoodHalfEmpty$Town", "rules", "LGoodHalfEmpty$Rules;", true)
  | 2 => ("GoodHalfEmpty$Town", "memory", "LGoodHalfEmpty$Memory;", true)
  | 3 => ("GoodHalfEmpty$Town", "chairs", "I", false)
  | 4 => ("GoodHalfEmpty$Town", "penny", "I", false)
  | 5 => ("GoodHalfEmpty$Town", "number", "I", false)
  | 6 => ("GoodHalfEmpty$Town", "foretold", "[I", true)
  | 7 => ("GoodHalfEmpty$Town", "going", "[I", true)
  | _ => ("GoodHalfEmpty$Town", "present", "I", false)
def tyX6 : Nat → FieldType := fun k => match k with
  | 0 => .object "GoodHalfEmpty$Sorts"
  | 1 => .object "GoodHalfEmpty$Rules"
  | 2 => .object "GoodHalfEmpty$Memory"
  | 3 => .int
  | 4 => .int
  | 5 => .int
  | 6 => .array .int
  | 7 => .array .int
  | _ => .int
abbrev wsX60 : List Cond := u_ws RX6 TX6 9
theorem nmX6 : ∀ a, a < 9 → ∀ b, b < 9 → a ≠ b → (TX6 a).2.1 ≠ (TX6 b).2.1 := by decide +kernel
theorem tyX6_ok : ∀ k, k < 9 → parseFieldDescriptor (TX6 k).2.2.1 = some (tyX6 k) := by decide +kernel
abbrev cX6_init : ByteArray := prog_8_method_1_code
def yX6_init : MethodName := ⟨RX6, "<init>", "()V"⟩
abbrev cX6_copyFrom : ByteArray := prog_8_method_2_code
def yX6_copyFrom : MethodName := ⟨RX6, "copyFrom", "(LGoodHalfEmpty$Town;)V"⟩
abbrev cX6_setChairs : ByteArray := prog_8_method_3_code
def yX6_setChairs : MethodName := ⟨RX6, "setChairs", "(I)Z"⟩
abbrev cX6_addWeek : ByteArray := prog_8_method_4_code
def yX6_addWeek : MethodName := ⟨RX6, "addWeek", "(I)Z"⟩
abbrev cX6_mayFollow : ByteArray := prog_8_method_5_code
def yX6_mayFollow : MethodName := ⟨RX6, "mayFollow", "(II)Z"⟩
abbrev cX6_presentAgo : ByteArray := prog_8_method_6_code
def yX6_presentAgo : MethodName := ⟨RX6, "presentAgo", "(I)I"⟩
abbrev cX6_meanPresent : ByteArray := prog_8_method_7_code
def yX6_meanPresent : MethodName := ⟨RX6, "meanPresent", "(I)I"⟩
abbrev cX6_foretells : ByteArray := prog_8_method_8_code
def yX6_foretells : MethodName := ⟨RX6, "foretells", "(II)I"⟩
abbrev cX6_isRight : ByteArray := prog_8_method_9_code
def yX6_isRight : MethodName := ⟨RX6, "isRight", "(I)Z"⟩
abbrev cX6_decide : ByteArray := prog_8_method_10_code
def yX6_decide : MethodName := ⟨RX6, "decide", "()V"⟩
abbrev cX6_askRules : ByteArray := prog_8_method_11_code
def yX6_askRules : MethodName := ⟨RX6, "askRules", "()V"⟩
abbrev cX6_askSorts : ByteArray := prog_8_method_12_code
def yX6_askSorts : MethodName := ⟨RX6, "askSorts", "()V"⟩
abbrev cX6_settle : ByteArray := prog_8_method_13_code
def yX6_settle : MethodName := ⟨RX6, "settle", "(IZ)V"⟩
abbrev cX6_wantsToGo : ByteArray := prog_8_method_14_code
def yX6_wantsToGo : MethodName := ⟨RX6, "wantsToGo", "(I)Z"⟩
abbrev cX6_goBy : ByteArray := prog_8_method_15_code
def yX6_goBy : MethodName := ⟨RX6, "goBy", "()I"⟩
abbrev cX6_worthToOne : ByteArray := prog_8_method_16_code
def yX6_worthToOne : MethodName := ⟨RX6, "worthToOne", "(I)I"⟩
abbrev cX6_worthToAll : ByteArray := prog_8_method_17_code
def yX6_worthToAll : MethodName := ⟨RX6, "worthToAll", "()I"⟩
abbrev cX6_drawMemory : ByteArray := prog_8_method_18_code
def yX6_drawMemory : MethodName := ⟨RX6, "drawMemory", "(I)I"⟩
def RX7 : String := "GoodHalfEmpty"
def TX7 : u_T := fun k => match k with
  | 0 => ("GoodHalfEmpty", "town", "LGoodHalfEmpty$Town;", true)
  | 1 => ("GoodHalfEmpty", "mind", "LGoodHalfEmpty$Town;", true)
  | 2 => ("GoodHalfEmpty", "kept", "LGoodHalfEmpty$Town;", true)
  | 3 => ("GoodHalfEmpty", "isKept", "Z", false)
  | 4 => ("GoodHalfEmpty", "text", "LGoodHalfEmpty$Text;", true)
  | 5 => ("GoodHalfEmpty", "plans", "LGoodHalfEmpty$Plans;", true)
  | 6 => ("GoodHalfEmpty", "ahead", "[I", true)
  | 7 => ("GoodHalfEmpty", "tally", "[I", true)
  | 8 => ("GoodHalfEmpty", "told", "[I", true)
  | 9 => ("GoodHalfEmpty", "toldSize", "I", false)
  | _ => ("GoodHalfEmpty", "refusals", "[I", true)
def tyX7 : Nat → FieldType := fun k => match k with
  | 0 => .object "GoodHalfEmpty$Town"
  | 1 => .object "GoodHalfEmpty$Town"
  | 2 => .object "GoodHalfEmpty$Town"
  | 3 => .boolean
  | 4 => .object "GoodHalfEmpty$Text"
  | 5 => .object "GoodHalfEmpty$Plans"
  | 6 => .array .int
  | 7 => .array .int
  | 8 => .array .int
  | 9 => .int
  | _ => .array .int
abbrev wsX70 : List Cond := u_ws RX7 TX7 11
theorem nmX7 : ∀ a, a < 11 → ∀ b, b < 11 → a ≠ b → (TX7 a).2.1 ≠ (TX7 b).2.1 := by decide +kernel
theorem tyX7_ok : ∀ k, k < 11 → parseFieldDescriptor (TX7 k).2.2.1 = some (tyX7 k) := by decide +kernel
abbrev cX7_init : ByteArray := prog_1_method_1_code
def yX7_init : MethodName := ⟨RX7, "<init>", "()V"⟩
abbrev cX7_letter : ByteArray := prog_1_method_2_code
def yX7_letter : MethodName := ⟨RX7, "letter", "(I)I"⟩
abbrev cX7_town : ByteArray := prog_1_method_3_code
def yX7_town : MethodName := ⟨RX7, "town", "()I"⟩
abbrev cX7_sort : ByteArray := prog_1_method_4_code
def yX7_sort : MethodName := ⟨RX7, "sort", "(II)I"⟩
abbrev cX7_rule : ByteArray := prog_1_method_5_code
def yX7_rule : MethodName := ⟨RX7, "rule", "(II)I"⟩
abbrev cX7_remembered : ByteArray := prog_1_method_6_code
def yX7_remembered : MethodName := ⟨RX7, "remembered", "(I)I"⟩
abbrev cX7_penny : ByteArray := prog_1_method_7_code
def yX7_penny : MethodName := ⟨RX7, "penny", "(I)I"⟩
abbrev cX7_week : ByteArray := prog_1_method_8_code
def yX7_week : MethodName := ⟨RX7, "week", "()I"⟩
abbrev cX7_next : ByteArray := prog_1_method_9_code
def yX7_next : MethodName := ⟨RX7, "next", "()I"⟩
abbrev cX7_goes : ByteArray := prog_1_method_10_code
def yX7_goes : MethodName := ⟨RX7, "goes", "(I)I"⟩
abbrev cX7_worth : ByteArray := prog_1_method_11_code
def yX7_worth : MethodName := ⟨RX7, "worth", "(I)I"⟩
abbrev cX7_after : ByteArray := prog_1_method_12_code
def yX7_after : MethodName := ⟨RX7, "after", "(I)I"⟩
abbrev cX7_mean : ByteArray := prog_1_method_13_code
def yX7_mean : MethodName := ⟨RX7, "mean", "(I)I"⟩
abbrev cX7_swing : ByteArray := prog_1_method_14_code
def yX7_swing : MethodName := ⟨RX7, "swing", "(I)I"⟩
abbrev cX7_good : ByteArray := prog_1_method_15_code
def yX7_good : MethodName := ⟨RX7, "good", "(I)I"⟩
abbrev cX7_again : ByteArray := prog_1_method_16_code
def yX7_again : MethodName := ⟨RX7, "again", "()I"⟩
abbrev cX7_gains : ByteArray := prog_1_method_17_code
def yX7_gains : MethodName := ⟨RX7, "gains", "(II)I"⟩
abbrev cX7_rests : ByteArray := prog_1_method_18_code
def yX7_rests : MethodName := ⟨RX7, "rests", "()I"⟩
abbrev cX7_rest : ByteArray := prog_1_method_19_code
def yX7_rest : MethodName := ⟨RX7, "rest", "(I)I"⟩
abbrev cX7_best : ByteArray := prog_1_method_20_code
def yX7_best : MethodName := ⟨RX7, "best", "(I)I"⟩
abbrev cX7_off : ByteArray := prog_1_method_21_code
def yX7_off : MethodName := ⟨RX7, "off", "()I"⟩
abbrev cX7_pennies : ByteArray := prog_1_method_22_code
def yX7_pennies : MethodName := ⟨RX7, "pennies", "()I"⟩
abbrev cX7_chairs : ByteArray := prog_1_method_23_code
def yX7_chairs : MethodName := ⟨RX7, "chairs", "()I"⟩
abbrev cX7_sees : ByteArray := prog_1_method_24_code
def yX7_sees : MethodName := ⟨RX7, "sees", "(IIII)I"⟩
abbrev cX7_which : ByteArray := prog_1_method_25_code
def yX7_which : MethodName := ⟨RX7, "which", "(I)I"⟩
abbrev cX7_longer : ByteArray := prog_1_method_26_code
def yX7_longer : MethodName := ⟨RX7, "longer", "(I)I"⟩
abbrev cX7_seeds : ByteArray := prog_1_method_27_code
def yX7_seeds : MethodName := ⟨RX7, "seeds", "(II)I"⟩
abbrev cX7_row : ByteArray := prog_1_method_28_code
def yX7_row : MethodName := ⟨RX7, "row", "(I)I"⟩
abbrev cX7_judge : ByteArray := prog_1_method_29_code
def yX7_judge : MethodName := ⟨RX7, "judge", "()I"⟩
abbrev cX7_image : ByteArray := prog_1_method_30_code
def yX7_image : MethodName := ⟨RX7, "image", "()I"⟩
abbrev cX7_on : ByteArray := prog_1_method_31_code
def yX7_on : MethodName := ⟨RX7, "on", "()I"⟩
abbrev cX7_count : ByteArray := prog_1_method_32_code
def yX7_count : MethodName := ⟨RX7, "count", "(I)I"⟩
abbrev cX7_refuse : ByteArray := prog_1_method_33_code
def yX7_refuse : MethodName := ⟨RX7, "refuse", "(I)I"⟩
abbrev cX7_refuseWorth : ByteArray := prog_1_method_34_code
def yX7_refuseWorth : MethodName := ⟨RX7, "refuseWorth", "(I)I"⟩
abbrev cX7_lookAhead : ByteArray := prog_1_method_35_code
def yX7_lookAhead : MethodName := ⟨RX7, "lookAhead", "(II)V"⟩
abbrev cX7_swingOf : ByteArray := prog_1_method_36_code
def yX7_swingOf : MethodName := ⟨RX7, "swingOf", "(I)I"⟩
abbrev cX7_comesAgainAfter : ByteArray := prog_1_method_37_code
def yX7_comesAgainAfter : MethodName := ⟨RX7, "comesAgainAfter", "(I)Z"⟩
abbrev cX7_gainsInMind : ByteArray := prog_1_method_38_code
def yX7_gainsInMind : MethodName := ⟨RX7, "gainsInMind", "(II)I"⟩
abbrev cX7_tallyRight : ByteArray := prog_1_method_39_code
def yX7_tallyRight : MethodName := ⟨RX7, "tallyRight", "(I)V"⟩
abbrev cX7_outside : ByteArray := prog_1_method_40_code
def yX7_outside : MethodName := ⟨RX7, "outside", "(III)I"⟩
abbrev cX7_at : ByteArray := prog_1_method_41_code
def yX7_at : MethodName := ⟨RX7, "at", "([II)I"⟩
abbrev cX7_put : ByteArray := prog_1_method_42_code
def yX7_put : MethodName := ⟨RX7, "put", "([III)V"⟩
abbrev cX7_copyRow : ByteArray := prog_1_method_43_code
def yX7_copyRow : MethodName := ⟨RX7, "copyRow", "([I[I)V"⟩
abbrev cX7_quotient : ByteArray := prog_1_method_44_code
def yX7_quotient : MethodName := ⟨RX7, "quotient", "(II)I"⟩
abbrev cX7_remainder : ByteArray := prog_1_method_45_code
def yX7_remainder : MethodName := ⟨RX7, "remainder", "(II)I"⟩
def RX8 : String := "GoodHalfEmptyModel"
def TX8 : u_T := fun k => match k with
  | 0 => ("GoodHalfEmptyModel", "refused", "[I", true)
  | 1 => ("GoodHalfEmptyModel", "now", "[I", true)
  | 2 => ("GoodHalfEmptyModel", "then", "[I", true)
  | 3 => ("GoodHalfEmptyModel", "mind", "[I", true)
  | 4 => ("GoodHalfEmptyModel", "kept", "Z", false)
  | 5 => ("GoodHalfEmptyModel", "tape", "[I", true)
  | 6 => ("GoodHalfEmptyModel", "taped", "I", false)
  | 7 => ("GoodHalfEmptyModel", "at", "I", false)
  | 8 => ("GoodHalfEmptyModel", "well", "Z", false)
  | 9 => ("GoodHalfEmptyModel", "begins", "[C", true)
  | 10 => ("GoodHalfEmptyModel", "goers", "[C", true)
  | 11 => ("GoodHalfEmptyModel", "rulers", "[C", true)
  | 12 => ("GoodHalfEmptyModel", "sort", "I", false)
  | 13 => ("GoodHalfEmptyModel", "field", "[I", true)
  | 14 => ("GoodHalfEmptyModel", "go", "[Z", true)
  | 15 => ("GoodHalfEmptyModel", "ahead", "[I", true)
  | 16 => ("GoodHalfEmptyModel", "plan", "[I", true)
  | 17 => ("GoodHalfEmptyModel", "firstRest", "[I", true)
  | 18 => ("GoodHalfEmptyModel", "rests", "I", false)
  | 19 => ("GoodHalfEmptyModel", "restWorth", "I", false)
  | 20 => ("GoodHalfEmptyModel", "restPresent", "I", false)
  | 21 => ("GoodHalfEmptyModel", "bestWorth", "I", false)
  | 22 => ("GoodHalfEmptyModel", "bestPresent", "I", false)
  | 23 => ("GoodHalfEmptyModel", "plans", "I", false)
  | 24 => ("GoodHalfEmptyModel", "before", "[I", true)
  | 25 => ("GoodHalfEmptyModel", "row", "[I", true)
  | _ => ("GoodHalfEmptyModel", "rows", "I", false)
def tyX8 : Nat → FieldType := fun k => match k with
  | 0 => .array .int
  | 1 => .array .int
  | 2 => .array .int
  | 3 => .array .int
  | 4 => .boolean
  | 5 => .array .int
  | 6 => .int
  | 7 => .int
  | 8 => .boolean
  | 9 => .array .char
  | 10 => .array .char
  | 11 => .array .char
  | 12 => .int
  | 13 => .array .int
  | 14 => .array .boolean
  | 15 => .array .int
  | 16 => .array .int
  | 17 => .array .int
  | 18 => .int
  | 19 => .int
  | 20 => .int
  | 21 => .int
  | 22 => .int
  | 23 => .int
  | 24 => .array .int
  | 25 => .array .int
  | _ => .int
abbrev wsX80 : List Cond := u_ws RX8 TX8 27
theorem nmX8 : ∀ a, a < 27 → ∀ b, b < 27 → a ≠ b → (TX8 a).2.1 ≠ (TX8 b).2.1 := by decide +kernel
theorem tyX8_ok : ∀ k, k < 27 → parseFieldDescriptor (TX8 k).2.2.1 = some (tyX8 k) := by decide +kernel
abbrev cX8_no : ByteArray := prog_10_method_1_code
def yX8_no : MethodName := ⟨RX8, "no", "(I)I"⟩
abbrev cX8_move : ByteArray := prog_10_method_2_code
def yX8_move : MethodName := ⟨RX8, "move", "([I[I)V"⟩
abbrev cX8_image : ByteArray := prog_10_method_3_code
def yX8_image : MethodName := ⟨RX8, "image", "()I"⟩
abbrev cX8_on : ByteArray := prog_10_method_4_code
def yX8_on : MethodName := ⟨RX8, "on", "()I"⟩
abbrev cX8_init : ByteArray := prog_10_method_5_code
def yX8_init : MethodName := ⟨RX8, "<init>", "()V"⟩
abbrev cX8_of : ByteArray := prog_10_method_6_code
def yX8_of : MethodName := ⟨RX8, "of", "(II)I"⟩
abbrev cX8_people : ByteArray := prog_10_method_7_code
def yX8_people : MethodName := ⟨RX8, "people", "()I"⟩
abbrev cX8_letter : ByteArray := prog_10_method_8_code
def yX8_letter : MethodName := ⟨RX8, "letter", "(I)I"⟩
abbrev cX8_expect : ByteArray := prog_10_method_9_code
def yX8_expect : MethodName := ⟨RX8, "expect", "(C)V"⟩
abbrev cX8_oneOf : ByteArray := prog_10_method_10_code
def yX8_oneOf : MethodName := ⟨RX8, "oneOf", "([C)I"⟩
abbrev cX8_figures : ByteArray := prog_10_method_11_code
def yX8_figures : MethodName := ⟨RX8, "figures", "(I)I"⟩
abbrev cX8_statement : ByteArray := prog_10_method_12_code
def yX8_statement : MethodName := ⟨RX8, "statement", "()V"⟩
abbrev cX8_isAsItMustBe : ByteArray := prog_10_method_13_code
def yX8_isAsItMustBe : MethodName := ⟨RX8, "isAsItMustBe", "(II)Z"⟩
abbrev cX8_remember : ByteArray := prog_10_method_14_code
def yX8_remember : MethodName := ⟨RX8, "remember", "(I)V"⟩
abbrev cX8_come : ByteArray := prog_10_method_15_code
def yX8_come : MethodName := ⟨RX8, "come", "()V"⟩
abbrev cX8_read : ByteArray := prog_10_method_16_code
def yX8_read : MethodName := ⟨RX8, "read", "()I"⟩
abbrev cX8_town : ByteArray := prog_10_method_17_code
def yX8_town : MethodName := ⟨RX8, "town", "()I"⟩
abbrev cX8_ago : ByteArray := prog_10_method_18_code
def yX8_ago : MethodName := ⟨RX8, "ago", "(I)I"⟩
abbrev cX8_foretold : ByteArray := prog_10_method_19_code
def yX8_foretold : MethodName := ⟨RX8, "foretold", "(II)I"⟩
abbrev cX8_isRoom : ByteArray := prog_10_method_20_code
def yX8_isRoom : MethodName := ⟨RX8, "isRoom", "(I)Z"⟩
abbrev cX8_hat : ByteArray := prog_10_method_21_code
def yX8_hat : MethodName := ⟨RX8, "hat", "(I)I"⟩
abbrev cX8_present : ByteArray := prog_10_method_22_code
def yX8_present : MethodName := ⟨RX8, "present", "()I"⟩
abbrev cX8_worthGone : ByteArray := prog_10_method_23_code
def yX8_worthGone : MethodName := ⟨RX8, "worthGone", "(II)I"⟩
abbrev cX8_worthNext : ByteArray := prog_10_method_24_code
def yX8_worthNext : MethodName := ⟨RX8, "worthNext", "(II)I"⟩
abbrev cX8_goOn : ByteArray := prog_10_method_25_code
def yX8_goOn : MethodName := ⟨RX8, "goOn", "()I"⟩
abbrev cX8_isNoSort : ByteArray := prog_10_method_26_code
def yX8_isNoSort : MethodName := ⟨RX8, "isNoSort", "(I)Z"⟩
abbrev cX8_sort : ByteArray := prog_10_method_27_code
def yX8_sort : MethodName := ⟨RX8, "sort", "(II)I"⟩
abbrev cX8_rule : ByteArray := prog_10_method_28_code
def yX8_rule : MethodName := ⟨RX8, "rule", "(II)I"⟩
abbrev cX8_remembered : ByteArray := prog_10_method_29_code
def yX8_remembered : MethodName := ⟨RX8, "remembered", "(I)I"⟩
abbrev cX8_penny : ByteArray := prog_10_method_30_code
def yX8_penny : MethodName := ⟨RX8, "penny", "(I)I"⟩
abbrev cX8_week : ByteArray := prog_10_method_31_code
def yX8_week : MethodName := ⟨RX8, "week", "()I"⟩
abbrev cX8_next : ByteArray := prog_10_method_32_code
def yX8_next : MethodName := ⟨RX8, "next", "()I"⟩
abbrev cX8_goes : ByteArray := prog_10_method_33_code
def yX8_goes : MethodName := ⟨RX8, "goes", "(I)I"⟩
abbrev cX8_worth : ByteArray := prog_10_method_34_code
def yX8_worth : MethodName := ⟨RX8, "worth", "(I)I"⟩
abbrev cX8_isWrong : ByteArray := prog_10_method_35_code
def yX8_isWrong : MethodName := ⟨RX8, "isWrong", "(II)I"⟩
abbrev cX8_goAhead : ByteArray := prog_10_method_36_code
def yX8_goAhead : MethodName := ⟨RX8, "goAhead", "(II)I"⟩
abbrev cX8_swungIn : ByteArray := prog_10_method_37_code
def yX8_swungIn : MethodName := ⟨RX8, "swungIn", "(I)I"⟩
abbrev cX8_after : ByteArray := prog_10_method_38_code
def yX8_after : MethodName := ⟨RX8, "after", "(I)I"⟩
abbrev cX8_mean : ByteArray := prog_10_method_39_code
def yX8_mean : MethodName := ⟨RX8, "mean", "(I)I"⟩
abbrev cX8_swing : ByteArray := prog_10_method_40_code
def yX8_swing : MethodName := ⟨RX8, "swing", "(I)I"⟩
abbrev cX8_good : ByteArray := prog_10_method_41_code
def yX8_good : MethodName := ⟨RX8, "good", "(I)I"⟩
abbrev cX8_again : ByteArray := prog_10_method_42_code
def yX8_again : MethodName := ⟨RX8, "again", "()I"⟩
abbrev cX8_gains : ByteArray := prog_10_method_43_code
def yX8_gains : MethodName := ⟨RX8, "gains", "(II)I"⟩
abbrev cX8_begin : ByteArray := prog_10_method_44_code
def yX8_begin : MethodName := ⟨RX8, "begin", "()V"⟩
abbrev cX8_isNextPlan : ByteArray := prog_10_method_45_code
def yX8_isNextPlan : MethodName := ⟨RX8, "isNextPlan", "()Z"⟩
abbrev cX8_isAtRest : ByteArray := prog_10_method_46_code
def yX8_isAtRest : MethodName := ⟨RX8, "isAtRest", "(I)Z"⟩
abbrev cX8_goThrough : ByteArray := prog_10_method_47_code
def yX8_goThrough : MethodName := ⟨RX8, "goThrough", "()V"⟩
abbrev cX8_rests : ByteArray := prog_10_method_48_code
def yX8_rests : MethodName := ⟨RX8, "rests", "()I"⟩
abbrev cX8_rest : ByteArray := prog_10_method_49_code
def yX8_rest : MethodName := ⟨RX8, "rest", "(I)I"⟩
abbrev cX8_best : ByteArray := prog_10_method_50_code
def yX8_best : MethodName := ⟨RX8, "best", "(I)I"⟩
abbrev cX8_off : ByteArray := prog_10_method_51_code
def yX8_off : MethodName := ⟨RX8, "off", "()I"⟩
abbrev cX8_pennies : ByteArray := prog_10_method_52_code
def yX8_pennies : MethodName := ⟨RX8, "pennies", "()I"⟩
abbrev cX8_chairs : ByteArray := prog_10_method_53_code
def yX8_chairs : MethodName := ⟨RX8, "chairs", "()I"⟩
abbrev cX8_sees : ByteArray := prog_10_method_54_code
def yX8_sees : MethodName := ⟨RX8, "sees", "(IIII)I"⟩
abbrev cX8_which : ByteArray := prog_10_method_55_code
def yX8_which : MethodName := ⟨RX8, "which", "(I)I"⟩
abbrev cX8_longer : ByteArray := prog_10_method_56_code
def yX8_longer : MethodName := ⟨RX8, "longer", "(I)I"⟩
abbrev cX8_seeds : ByteArray := prog_10_method_57_code
def yX8_seeds : MethodName := ⟨RX8, "seeds", "(II)I"⟩
abbrev cX8_row : ByteArray := prog_10_method_58_code
def yX8_row : MethodName := ⟨RX8, "row", "(I)I"⟩
abbrev cX8_judge : ByteArray := prog_10_method_59_code
def yX8_judge : MethodName := ⟨RX8, "judge", "()I"⟩
abbrev cX8_count : ByteArray := prog_10_method_60_code
def yX8_count : MethodName := ⟨RX8, "count", "(I)I"⟩
def RJ11 : String := "java/lang/Character"
def TJ11 : u_T := fun k => match k with
  | _ => ("", "", "", false)
def tyJ11 : Nat → FieldType := fun k => match k with
  | _ => .int
abbrev wsJ110 : List Cond := u_ws RJ11 TJ11 0
theorem nmJ11 : ∀ a, a < 0 → ∀ b, b < 0 → a ≠ b → (TJ11 a).2.1 ≠ (TJ11 b).2.1 := by decide +kernel
theorem tyJ11_ok : ∀ k, k < 0 → parseFieldDescriptor (TJ11 k).2.2.1 = some (tyJ11 k) := by decide +kernel
abbrev cJ11_isValidCodePoint_9a6ad : ByteArray := prog_11_method_11_code
def yJ11_isValidCodePoint_9a6ad : MethodName := ⟨RJ11, "isValidCodePoint", "(I)Z"⟩
abbrev cJ11_highSurrogate_5068e : ByteArray := prog_11_method_28_code
def yJ11_highSurrogate_5068e : MethodName := ⟨RJ11, "highSurrogate", "(I)C"⟩
abbrev cJ11_lowSurrogate_5068e : ByteArray := prog_11_method_29_code
def yJ11_lowSurrogate_5068e : MethodName := ⟨RJ11, "lowSurrogate", "(I)C"⟩
def RJ9 : String := "java/lang/Math"
def TJ9 : u_T := fun k => match k with
  | _ => ("", "", "", false)
def tyJ9 : Nat → FieldType := fun k => match k with
  | _ => .int
abbrev wsJ90 : List Cond := u_ws RJ9 TJ9 0
theorem nmJ9 : ∀ a, a < 0 → ∀ b, b < 0 → a ≠ b → (TJ9 a).2.1 ≠ (TJ9 b).2.1 := by decide +kernel
theorem tyJ9_ok : ∀ k, k < 0 → parseFieldDescriptor (TJ9 k).2.2.1 = some (tyJ9 k) := by decide +kernel
abbrev cJ9_max_7cf53 : ByteArray := prog_12_method_65_code
def yJ9_max_7cf53 : MethodName := ⟨RJ9, "max", "(II)I"⟩
abbrev cJ9_min_7cf53 : ByteArray := prog_12_method_69_code
def yJ9_min_7cf53 : MethodName := ⟨RJ9, "min", "(II)I"⟩
def RJ0 : String := "java/lang/String"
def TJ0 : u_T := fun k => match k with
  | _ => ("", "", "", false)
def tyJ0 : Nat → FieldType := fun k => match k with
  | _ => .int
abbrev wsJ00 : List Cond := u_ws RJ0 TJ0 0
theorem nmJ0 : ∀ a, a < 0 → ∀ b, b < 0 → a ≠ b → (TJ0 a).2.1 ≠ (TJ0 b).2.1 := by decide +kernel
theorem tyJ0_ok : ∀ k, k < 0 → parseFieldDescriptor (TJ0 k).2.2.1 = some (tyJ0 k) := by decide +kernel
abbrev cJ0_length_8abf5 : ByteArray := prog_13_method_54_code
def yJ0_length_8abf5 : MethodName := ⟨RJ0, "length", "()I"⟩
abbrev cJ0_isEmpty_aae02 : ByteArray := prog_13_method_55_code
def yJ0_isEmpty_aae02 : MethodName := ⟨RJ0, "isEmpty", "()Z"⟩
abbrev cJ0_charAt_5068e : ByteArray := prog_13_method_56_code
def yJ0_charAt_5068e : MethodName := ⟨RJ0, "charAt", "(I)C"⟩
abbrev cJ0_indexOf_0f7a4 : ByteArray := prog_13_method_79_code
def yJ0_indexOf_0f7a4 : MethodName := ⟨RJ0, "indexOf", "(I)I"⟩
abbrev cJ0_indexOf_7cf53 : ByteArray := prog_13_method_80_code
def yJ0_indexOf_7cf53 : MethodName := ⟨RJ0, "indexOf", "(II)I"⟩
abbrev cJ0_coder_7d493 : ByteArray := prog_13_method_152_code
def yJ0_coder_7d493 : MethodName := ⟨RJ0, "coder", "()B"⟩
abbrev cJ0_isLatin1_aae02 : ByteArray := prog_13_method_154_code
def yJ0_isLatin1_aae02 : MethodName := ⟨RJ0, "isLatin1", "()Z"⟩
abbrev cJ0_checkIndex_df160 : ByteArray := prog_13_method_155_code
def yJ0_checkIndex_df160 : MethodName := ⟨RJ0, "checkIndex", "(II)V"⟩
abbrev cJ0_checkBoundsBeginEnd_23922 : ByteArray := prog_13_method_158_code
def yJ0_checkBoundsBeginEnd_23922 : MethodName := ⟨RJ0, "checkBoundsBeginEnd", "(III)V"⟩
def RJ1 : String := "java/lang/StringLatin1"
def TJ1 : u_T := fun k => match k with
  | _ => ("", "", "", false)
def tyJ1 : Nat → FieldType := fun k => match k with
  | _ => .int
abbrev wsJ10 : List Cond := u_ws RJ1 TJ1 0
theorem nmJ1 : ∀ a, a < 0 → ∀ b, b < 0 → a ≠ b → (TJ1 a).2.1 ≠ (TJ1 b).2.1 := by decide +kernel
theorem tyJ1_ok : ∀ k, k < 0 → parseFieldDescriptor (TJ1 k).2.2.1 = some (tyJ1 k) := by decide +kernel
abbrev cJ1_charAt_3b067 : ByteArray := prog_14_method_2_code
def yJ1_charAt_3b067 : MethodName := ⟨RJ1, "charAt", "([BI)C"⟩
abbrev cJ1_canEncode_9a6ad : ByteArray := prog_14_method_4_code
def yJ1_canEncode_9a6ad : MethodName := ⟨RJ1, "canEncode", "(I)Z"⟩
abbrev cJ1_indexOf_4cfef : ByteArray := prog_14_method_22_code
def yJ1_indexOf_4cfef : MethodName := ⟨RJ1, "indexOf", "([BIII)I"⟩
abbrev cJ1_indexOfChar_4cfef : ByteArray := prog_14_method_23_code
def yJ1_indexOfChar_4cfef : MethodName := ⟨RJ1, "indexOfChar", "([BIII)I"⟩
def RJ2 : String := "java/lang/StringUTF16"
def TJ2 : u_T := fun k => match k with
  | _ => ("", "", "", false)
def tyJ2 : Nat → FieldType := fun k => match k with
  | _ => .int
abbrev wsJ20 : List Cond := u_ws RJ2 TJ2 0
theorem nmJ2 : ∀ a, a < 0 → ∀ b, b < 0 → a ≠ b → (TJ2 a).2.1 ≠ (TJ2 b).2.1 := by decide +kernel
theorem tyJ2_ok : ∀ k, k < 0 → parseFieldDescriptor (TJ2 k).2.2.1 = some (tyJ2 k) := by decide +kernel
abbrev cJ2_getChar_3b067 : ByteArray := prog_15_method_5_code
def yJ2_getChar_3b067 : MethodName := ⟨RJ2, "getChar", "([BI)C"⟩
abbrev cJ2_length_9d52b : ByteArray := prog_15_method_6_code
def yJ2_length_9d52b : MethodName := ⟨RJ2, "length", "([B)I"⟩
abbrev cJ2_indexOf_4cfef : ByteArray := prog_15_method_40_code
def yJ2_indexOf_4cfef : MethodName := ⟨RJ2, "indexOf", "([BIII)I"⟩
abbrev cJ2_indexOfChar_4cfef : ByteArray := prog_15_method_47_code
def yJ2_indexOfChar_4cfef : MethodName := ⟨RJ2, "indexOfChar", "([BIII)I"⟩
abbrev cJ2_indexOfCharUnsafe_4cfef : ByteArray := prog_15_method_48_code
def yJ2_indexOfCharUnsafe_4cfef : MethodName := ⟨RJ2, "indexOfCharUnsafe", "([BIII)I"⟩
abbrev cJ2_indexOfSupplementary_4cfef : ByteArray := prog_15_method_49_code
def yJ2_indexOfSupplementary_4cfef : MethodName := ⟨RJ2, "indexOfSupplementary", "([BIII)I"⟩
abbrev cJ2_charAt_3b067 : ByteArray := prog_15_method_83_code
def yJ2_charAt_3b067 : MethodName := ⟨RJ2, "charAt", "([BI)C"⟩
abbrev cJ2_checkIndex_2214a : ByteArray := prog_15_method_91_code
def yJ2_checkIndex_2214a : MethodName := ⟨RJ2, "checkIndex", "(I[B)V"⟩
abbrev cJ2_checkBoundsBeginEnd_d044e : ByteArray := prog_15_method_93_code
def yJ2_checkBoundsBeginEnd_d044e : MethodName := ⟨RJ2, "checkBoundsBeginEnd", "(II[B)V"⟩
def RJ3 : String := "jdk/internal/util/Preconditions"
def TJ3 : u_T := fun k => match k with
  | _ => ("", "", "", false)
def tyJ3 : Nat → FieldType := fun k => match k with
  | _ => .int
abbrev wsJ30 : List Cond := u_ws RJ3 TJ3 0
theorem nmJ3 : ∀ a, a < 0 → ∀ b, b < 0 → a ≠ b → (TJ3 a).2.1 ≠ (TJ3 b).2.1 := by decide +kernel
theorem tyJ3_ok : ∀ k, k < 0 → parseFieldDescriptor (TJ3 k).2.2.1 = some (tyJ3 k) := by decide +kernel
abbrev cJ3_checkIndex_8e157 : ByteArray := prog_16_method_11_code
def yJ3_checkIndex_8e157 : MethodName := ⟨RJ3, "checkIndex", "(IILjava/util/function/BiFunction;)I"⟩
abbrev cJ3_checkFromToIndex_8c36e : ByteArray := prog_16_method_12_code
def yJ3_checkFromToIndex_8c36e : MethodName := ⟨RJ3, "checkFromToIndex", "(IIILjava/util/function/BiFunction;)I"⟩
def RL : String := "GoodHalfEmptyLaw"
abbrev cL_law : ByteArray := code
def yL_law : MethodName := ⟨RL, "law", "([I)Z"⟩
abbrev vwCl : List vw_C := [(RX0, TX0, 8), (RX1, TX1, 2), (RX2, TX2, 4), (RX3, TX3, 4), (RX4, TX4, 7), (RX5, TX5, 2), (RX6, TX6, 9), (RX7, TX7, 11), (RX8, TX8, 27)]
end
section
/-! THE ABSTRACT MACHINE: the world of the law's two objects is 75 cells whose references never change behind the constructors; what changes is whole numbers: h k j is what field j, or entry j, of cell k holds. Text constants are cells 1000 and on, their bytes 1100 and on, the script is cell 2000. az_ev runs the methods' own instructions over it. -/
abbrev az_H : Type := Nat → Nat → Int32
abbrev az_S : Type := Nat × (Nat → Int32)
/-- a method: its class, code, name, bytes, locals, answer's type, frames and locals' words that its calls want -/
abbrev az_M : Type := Nat × List (Nat × Instr × Nat) × MethodName × ByteArray × Nat × Option FieldType × Nat × Nat
abbrev az_cd (M : az_M) : List (Nat × Instr × Nat) := M.2.1
abbrev az_y (M : az_M) : MethodName := M.2.2.1
abbrev az_by (M : az_M) : ByteArray := M.2.2.2.1
abbrev az_nl (M : az_M) : Nat := M.2.2.2.2.1
abbrev az_rt (M : az_M) : Option FieldType := M.2.2.2.2.2.1
abbrev az_fr (M : az_M) : Nat := M.2.2.2.2.2.2.1
abbrev az_lo (M : az_M) : Nat := M.2.2.2.2.2.2.2
def az_look : List (Nat × Instr × Nat) → Nat → Option (Instr × Nat)
  | [], _ => none
  | (q, i, n) :: r, pc => bif Nat.beq q pc then some (i, n) else az_look r pc
/-- a cell of the world: an object of a class, each field a reference to a cell or a number; or an array: its kind (0 int, 1 boolean, 2 char) and length -/
abbrev az_kd : Type := (Nat × List (Option Nat)) ⊕ (Nat × Nat)
def az_fty : Nat → FieldType
  | 0 => .int
  | 1 => .boolean
  | _ => .char
/-- a pool entry among a class's: by its number -/
def az_pool {α : Type} : List (Nat × α) → Nat → Option α
  | [], _ => none
  | (q, a) :: r, k => bif Nat.beq q k then some a else az_pool r k
/-- the names of the classes, by their numbers -/
def az_own : Nat → String
  | 0 => RX0
  | 1 => RX1
  | 2 => RX2
  | 3 => RX3
  | 4 => RX4
  | 5 => RX5
  | 6 => RX6
  | 7 => RX7
  | 8 => RX8
  | 9 => RJ0
  | 10 => RJ1
  | 11 => RJ2
  | 12 => RJ3
  | 13 => RJ9
  | 14 => RJ11
  | _ => RL
def az_wd : List az_kd := [.inl (7, [some 1, some 16, some 31, none, some 46, some 48, some 55, some 56, some 57, none, some 58]), .inl (6, [some 2, some 9, some 13, none, none, none, some 75, some 15, none]), .inl (4, [some 3, some 4, some 5, some 6, some 7, some 8, none]), .inr (0, 4), .inr (0, 4), .inr (0, 4), .inr (0, 4), .inr (0, 4), .inr (0, 4), .inl (3, [some 10, some 11, some 12, none]), .inr (0, 6), .inr (0, 6), .inr (0, 6), .inl (1, [some 14, none]), .inr (0, 8), .inr (0, 4), .inl (6, [some 17, some 24, some 28, none, none, none, some 76, some 30, none]), .inl (4, [some 18, some 19, some 20, some 21, some 22, some 23, none]), .inr (0, 4), .inr (0, 4), .inr (0, 4), .inr (0, 4), .inr (0, 4), .inr (0, 4), .inl (3, [some 25, some 26, some 27, none]), .inr (0, 6), .inr (0, 6), .inr (0, 6), .inl (1, [some 29, none]), .inr (0, 8), .inr (0, 4), .inl (6, [some 32, some 39, some 43, none, none, none, some 77, some 45, none]), .inl (4, [some 33, some 34, some 35, some 36, some 37, some 38, none]), .inr (0, 4), .inr (0, 4), .inr (0, 4), .inr (0, 4), .inr (0, 4), .inr (0, 4), .inl (3, [some 40, some 41, some 42, none]), .inr (0, 6), .inr (0, 6), .inr (0, 6), .inl (1, [some 44, none]), .inr (0, 8), .inr (0, 4), .inl (5, [some 47, none]), .inr (0, 80), .inl (2, [some 49, some 54, none, none]), .inl (0, [some 50, some 51, some 52, some 53, none, none, none, none]), .inr (0, 4), .inr (0, 4), .inr (0, 4), .inr (0, 37), .inr (0, 4), .inr (0, 80), .inr (0, 36), .inr (0, 12), .inr (0, 7), .inl (8, [some 60, some 61, some 62, some 63, none, some 64, none, none, none, some 65, some 66, some 67, none, some 68, some 69, some 70, some 71, some 72, none, none, none, none, none, none, some 73, some 74, none]), .inr (0, 7), .inr (0, 70), .inr (0, 70), .inr (0, 70), .inr (0, 80), .inr (2, 4), .inr (2, 6), .inr (2, 6), .inr (0, 6), .inr (1, 4), .inr (0, 81), .inr (0, 4), .inr (0, 4), .inr (0, 70), .inr (0, 12), .inr (0, 6), .inr (0, 6), .inr (0, 6)]
def az_tx : List (List Int32) := [[35, 35, 59], [35, 59], [35, 107, 35, 44, 35, 35, 35, 59], [102, 35, 59], [], [97, 110, 114, 104, 117, 101], [108, 111, 109, 116, 98, 102]]
def az_isZ (c j : Nat) : Bool := (Nat.beq c 2 && Nat.beq j 3) || (Nat.beq c 7 && Nat.beq j 3) || (Nat.beq c 8 && Nat.beq j 4) || (Nat.beq c 8 && Nat.beq j 8)
def az_fl_0 : List (Nat × (Nat × Nat)) := [(9, (0, 0)), (15, (0, 1)), (18, (0, 2)), (21, (0, 3)), (24, (0, 4)), (28, (0, 5)), (31, (0, 6)), (34, (0, 7))]
def az_fl_1 : List (Nat × (Nat × Nat)) := [(9, (1, 0)), (15, (1, 1))]
def az_fl_2 : List (Nat × (Nat × Nat)) := [(12, (2, 0)), (18, (2, 1)), (22, (2, 2)), (26, (2, 3)), (73, (0, 0)), (80, (0, 4)), (90, (4, 6)), (93, (4, 4)), (96, (4, 3)), (99, (4, 0)), (102, (4, 5))]
def az_fl_3 : List (Nat × (Nat × Nat)) := [(9, (3, 0)), (15, (3, 1)), (18, (3, 2)), (21, (3, 3))]
def az_fl_4 : List (Nat × (Nat × Nat)) := [(9, (4, 0)), (15, (4, 1)), (18, (4, 2)), (21, (4, 3)), (24, (4, 4)), (27, (4, 5)), (30, (4, 6))]
def az_fl_5 : List (Nat × (Nat × Nat)) := [(9, (5, 0)), (15, (5, 1)), (98, (6, 1)), (117, (6, 0))]
def az_fl_6 : List (Nat × (Nat × Nat)) := [(12, (6, 0)), (21, (6, 1)), (28, (6, 2)), (32, (6, 3)), (36, (6, 4)), (39, (6, 5)), (42, (6, 6)), (46, (6, 7)), (49, (6, 8)), (70, (1, 0)), (73, (1, 1)), (102, (3, 3)), (103, (3, 0)), (110, (3, 1)), (120, (4, 6)), (121, (4, 1)), (129, (4, 0)), (132, (4, 2)), (144, (3, 2)), (147, (4, 5)), (150, (4, 3)), (153, (4, 4))]
def az_fl_7 : List (Nat × (Nat × Nat)) := [(12, (7, 0)), (16, (7, 1)), (19, (7, 2)), (22, (7, 3)), (29, (7, 4)), (36, (7, 5)), (40, (7, 6)), (44, (7, 7)), (47, (7, 8)), (50, (7, 9)), (54, (7, 10)), (61, (5, 1)), (82, (6, 0)), (92, (4, 0)), (99, (4, 1)), (102, (4, 2)), (105, (4, 3)), (108, (4, 4)), (111, (4, 5)), (114, (6, 1)), (121, (3, 0)), (122, (3, 1)), (125, (3, 2)), (135, (6, 4)), (145, (6, 8)), (148, (6, 7)), (170, (6, 3)), (190, (2, 1)), (204, (4, 6)), (219, (6, 5)), (222, (3, 3)), (226, (6, 2)), (230, (1, 1))]
def az_fl_8 : List (Nat × (Nat × Nat)) := [(1, (8, 0)), (7, (8, 4)), (11, (8, 1)), (14, (8, 2)), (31, (8, 3)), (34, (8, 5)), (37, (8, 9)), (41, (8, 10)), (44, (8, 11)), (47, (8, 13)), (50, (8, 14)), (54, (8, 15)), (57, (8, 16)), (60, (8, 17)), (63, (8, 24)), (66, (8, 25)), (73, (8, 6)), (77, (8, 8)), (80, (8, 7)), (87, (8, 12)), (164, (8, 18)), (167, (8, 23)), (173, (8, 21)), (176, (8, 22)), (182, (8, 20)), (185, (8, 19)), (198, (8, 26))]
def az_fl_9 : List (Nat × (Nat × Nat)) := [(9, (9, 0)), (15, (9, 1))]
def az_fl (c k : Nat) : Option ((Nat × Nat)) := match c with
  | 0 => az_pool az_fl_0 k
  | 1 => az_pool az_fl_1 k
  | 2 => az_pool az_fl_2 k
  | 3 => az_pool az_fl_3 k
  | 4 => az_pool az_fl_4 k
  | 5 => az_pool az_fl_5 k
  | 6 => az_pool az_fl_6 k
  | 7 => az_pool az_fl_7 k
  | 8 => az_pool az_fl_8 k
  | 9 => az_pool az_fl_9 k
  | _ => none
def az_ldc_0 : List (Nat × Value) := [(65, .int (-1000000000))]
def az_ldc_2 : List (Nat × Value) := [(42, .int (-1000000000))]
def az_ldc_5 : List (Nat × Value) := [(65, .ref 1002), (67, .ref 1003), (69, .ref 1004), (75, .ref 1000), (77, .ref 1001), (79, .ref 1005), (85, .ref 1006)]
def az_ldc_6 : List (Nat × Value) := [(159, .int (1664525)), (160, .int (1013904223)), (161, .int (2147483647))]
def az_ldc_7 : List (Nat × Value) := [(203, .int (-1000000000)), (233, .int (1000000000))]
def az_ldc_8 : List (Nat × Value) := [(148, .int (1000000000)), (195, .int (1664525)), (196, .int (1013904223)), (197, .int (2147483647))]
def az_ldc_11 : List (Nat × Value) := [(227, .int (65536))]
def az_ldc_14 : List (Nat × Value) := [(76, .int (56320)), (110, .int (55232))]
def az_ldc (c k : Nat) : Option Value := match c with
  | 0 => az_pool az_ldc_0 k
  | 2 => az_pool az_ldc_2 k
  | 5 => az_pool az_ldc_5 k
  | 6 => az_pool az_ldc_6 k
  | 7 => az_pool az_ldc_7 k
  | 8 => az_pool az_ldc_8 k
  | 11 => az_pool az_ldc_11 k
  | 14 => az_pool az_ldc_14 k
  | _ => none
def az_cs_9 : List (Nat × Value) := [(38, .int 1), (1053, .retAddr 0)]
def az_cs (c k : Nat) : Option Value := match c with
  | 9 => az_pool az_cs_9 k
  | _ => none
def az_mx_0 : List (Nat × Bool) := [(41, false), (58, true)]
def az_mx_1 : List (Nat × Bool) := [(31, false)]
def az_mx_2 : List (Nat × Bool) := [(50, true)]
def az_mx_3 : List (Nat × Bool) := [(37, false)]
def az_mx_5 : List (Nat × Bool) := [(23, false)]
def az_mx_6 : List (Nat × Bool) := [(88, true)]
def az_mx_7 : List (Nat × Bool) := [(237, false), (242, true)]
def az_mx_8 : List (Nat × Bool) := [(121, true), (152, false)]
def az_mx_10 : List (Nat × Bool) := [(38, false), (92, true)]
def az_mx_11 : List (Nat × Bool) := [(183, false), (224, true)]
def az_mx (c k : Nat) : Option Bool := match c with
  | 0 => az_pool az_mx_0 k
  | 1 => az_pool az_mx_1 k
  | 2 => az_pool az_mx_2 k
  | 3 => az_pool az_mx_3 k
  | 5 => az_pool az_mx_5 k
  | 6 => az_pool az_mx_6 k
  | 7 => az_pool az_mx_7 k
  | 8 => az_pool az_mx_8 k
  | 10 => az_pool az_mx_10 k
  | 11 => az_pool az_mx_11 k
  | _ => none
def az_m_X0_begin : az_M := (0, [(0, .aload_n 0, 1), (1, .iconst 0, 1), (2, .putfield 24, 3), (5, .aload_n 0, 1), (6, .iload_n 1, 1), (7, .putfield 28, 3), (10, .aload_n 0, 1), (11, .iload_n 2, 1), (12, .putfield 31, 3), (15, .aload_n 0, 1), (16, .iconst 0, 1), (17, .putfield 34, 3), (20, .return_, 1)], yX0_begin, cX0_begin, 3, none, 0, 0)
def az_m_X0_add : az_M := (0, [(0, .aload_n 0, 1), (1, .getfield 9, 3), (4, .aload_n 0, 1), (5, .getfield 24, 3), (8, .iload_n 1, 1), (9, .invokestatic 37, 3), (12, .aload_n 0, 1), (13, .getfield 15, 3), (16, .aload_n 0, 1), (17, .getfield 24, 3), (20, .iload_n 2, 1), (21, .invokestatic 37, 3), (24, .aload_n 0, 1), (25, .getfield 18, 3), (28, .aload_n 0, 1), (29, .getfield 24, 3), (32, .iload 4, 2), (34, .iload 5, 2), (36, .isub, 1), (37, .invokestatic 37, 3), (40, .aload_n 0, 1), (41, .dup, 1), (42, .getfield 34, 3), (45, .iload_n 3, 1), (46, .iload 5, 2), (48, .imul, 1), (49, .iadd, 1), (50, .putfield 34, 3), (53, .aload_n 0, 1), (54, .aload_n 0, 1), (55, .getfield 24, 3), (58, .iconst 1, 1), (59, .iadd, 1), (60, .iconst 4, 1), (61, .invokestatic 41, 3), (64, .putfield 24, 3), (67, .return_, 1)], yX0_add, cX0_add, 6, none, 1, 22)
def az_m_X0_hasPlan : az_M := (0, [(0, .iconst 0, 1), (1, .istore_n 1, 1), (2, .iconst 0, 1), (3, .istore_n 2, 1), (4, .iconst 0, 1), (5, .istore_n 3, 1), (6, .iload_n 3, 1), (7, .aload_n 0, 1), (8, .getfield 24, 3), (11, .if_icmp .ge 52, 3), (14, .aload_n 0, 1), (15, .getfield 9, 3), (18, .iload_n 3, 1), (19, .invokestatic 47, 3), (22, .aload_n 0, 1), (23, .getfield 15, 3), (26, .iload_n 3, 1), (27, .invokestatic 47, 3), (30, .if_icmp .le 5, 3), (33, .iconst 0, 1), (34, .ireturn, 1), (35, .iload_n 1, 1), (36, .aload_n 0, 1), (37, .getfield 9, 3), (40, .iload_n 3, 1), (41, .invokestatic 47, 3), (44, .iadd, 1), (45, .istore_n 1, 1), (46, .iload_n 2, 1), (47, .aload_n 0, 1), (48, .getfield 15, 3), (51, .iload_n 3, 1), (52, .invokestatic 47, 3), (55, .iadd, 1), (56, .istore_n 2, 1), (57, .iinc 3 1, 3), (60, .goto (-54), 3), (63, .aload_n 0, 1), (64, .getfield 28, 3), (67, .aload_n 0, 1), (68, .getfield 31, 3), (71, .if_icmp .gt 23, 3), (74, .iload_n 1, 1), (75, .aload_n 0, 1), (76, .getfield 31, 3), (79, .if_icmp .gt 15, 3), (82, .iload_n 2, 1), (83, .aload_n 0, 1), (84, .getfield 28, 3), (87, .if_icmp .lt 7, 3), (90, .iconst 1, 1), (91, .goto 4, 3), (94, .iconst 0, 1), (95, .ireturn, 1)], yX0_hasPlan, cX0_hasPlan, 4, (some .boolean), 1, 21)
def az_m_X0_plans : az_M := (0, [(0, .aload_n 0, 1), (1, .invokevirtual 51, 3), (4, .ifCond .ne 5, 3), (7, .iconst 0, 1), (8, .ireturn, 1), (9, .aload_n 0, 1), (10, .invokevirtual 55, 3), (13, .iconst 0, 1), (14, .istore_n 1, 1), (15, .iconst 0, 1), (16, .aload_n 0, 1), (17, .getfield 28, 3), (20, .invokestatic 58, 3), (23, .istore_n 2, 1), (24, .iload_n 2, 1), (25, .aload_n 0, 1), (26, .getfield 31, 3), (29, .if_icmp .gt 29, 3), (32, .iload_n 2, 1), (33, .aload_n 0, 1), (34, .getfield 21, 3), (37, .arraylength, 1), (38, .if_icmp .ge 20, 3), (41, .iload_n 1, 1), (42, .aload_n 0, 1), (43, .getfield 21, 3), (46, .iload_n 2, 1), (47, .invokestatic 47, 3), (50, .iadd, 1), (51, .istore_n 1, 1), (52, .iinc 2 1, 3), (55, .goto (-31), 3), (58, .iload_n 1, 1), (59, .ireturn, 1)], yX0_plans, cX0_plans, 3, (some .int), 2, 46)
def az_m_X0_countWays : az_M := (0, [(0, .iconst 0, 1), (1, .istore_n 1, 1), (2, .iload_n 1, 1), (3, .aload_n 0, 1), (4, .getfield 21, 3), (7, .arraylength, 1), (8, .if_icmp .ge 26, 3), (11, .aload_n 0, 1), (12, .getfield 21, 3), (15, .iload_n 1, 1), (16, .iload_n 1, 1), (17, .ifCond .ne 7, 3), (20, .iconst 1, 1), (21, .goto 4, 3), (24, .iconst 0, 1), (25, .invokestatic 37, 3), (28, .iinc 1 1, 3), (31, .goto (-29), 3), (34, .iconst 0, 1), (35, .istore_n 1, 1), (36, .iload_n 1, 1), (37, .aload_n 0, 1), (38, .getfield 24, 3), (41, .if_icmp .ge 81, 3), (44, .aload_n 0, 1), (45, .getfield 21, 3), (48, .arraylength, 1), (49, .iconst 1, 1), (50, .isub, 1), (51, .istore_n 2, 1), (52, .iload_n 2, 1), (53, .ifCond .lt 63, 3), (56, .iconst 0, 1), (57, .istore_n 3, 1), (58, .aload_n 0, 1), (59, .getfield 9, 3), (62, .iload_n 1, 1), (63, .invokestatic 47, 3), (66, .istore 4, 2), (68, .iload 4, 2), (70, .aload_n 0, 1), (71, .getfield 15, 3), (74, .iload_n 1, 1), (75, .invokestatic 47, 3), (78, .if_icmp .gt 23, 3), (81, .iload_n 3, 1), (82, .aload_n 0, 1), (83, .getfield 21, 3), (86, .iload_n 2, 1), (87, .iload 4, 2), (89, .isub, 1), (90, .invokestatic 47, 3), (93, .iadd, 1), (94, .istore_n 3, 1), (95, .iinc 4 1, 3), (98, .goto (-30), 3), (101, .aload_n 0, 1), (102, .getfield 21, 3), (105, .iload_n 2, 1), (106, .iload_n 3, 1), (107, .invokestatic 37, 3), (110, .iinc 2 (-1), 3), (113, .goto (-61), 3), (116, .iinc 1 1, 3), (119, .goto (-83), 3), (122, .return_, 1)], yX0_countWays, cX0_countWays, 5, none, 1, 22)
def az_m_X0_greatestWorth : az_M := (0, [(0, .iconst 0, 1), (1, .istore_n 1, 1), (2, .aload_n 0, 1), (3, .getfield 34, 3), (6, .istore_n 2, 1), (7, .iconst 0, 1), (8, .istore_n 3, 1), (9, .iload_n 3, 1), (10, .aload_n 0, 1), (11, .getfield 24, 3), (14, .if_icmp .ge 40, 3), (17, .iload_n 1, 1), (18, .aload_n 0, 1), (19, .getfield 9, 3), (22, .iload_n 3, 1), (23, .invokestatic 47, 3), (26, .iadd, 1), (27, .istore_n 1, 1), (28, .iload_n 2, 1), (29, .aload_n 0, 1), (30, .getfield 9, 3), (33, .iload_n 3, 1), (34, .invokestatic 47, 3), (37, .aload_n 0, 1), (38, .getfield 18, 3), (41, .iload_n 3, 1), (42, .invokestatic 47, 3), (45, .imul, 1), (46, .iadd, 1), (47, .istore_n 2, 1), (48, .iinc 3 1, 3), (51, .goto (-42), 3), (54, .iconst 0, 1), (55, .istore_n 3, 1), (56, .iconst 0, 1), (57, .istore 4, 2), (59, .iload 4, 2), (61, .aload_n 0, 1), (62, .getfield 24, 3), (65, .if_icmp .ge 100, 3), (68, .aload_n 0, 1), (69, .iload_n 3, 1), (70, .invokevirtual 61, 3), (73, .istore 5, 2), (75, .iload_n 3, 1), (76, .iconst 1, 1), (77, .iload 5, 2), (79, .ishl, 1), (80, .ior, 1), (81, .istore_n 3, 1), (82, .aload_n 0, 1), (83, .getfield 18, 3), (86, .iload 5, 2), (88, .invokestatic 47, 3), (91, .ifCond .le 10, 3), (94, .aload_n 0, 1), (95, .getfield 31, 3), (98, .goto 7, 3), (101, .aload_n 0, 1), (102, .getfield 28, 3), (105, .iload_n 1, 1), (106, .isub, 1), (107, .istore 6, 2), (109, .iconst 0, 1), (110, .iload 6, 2), (112, .aload_n 0, 1), (113, .getfield 15, 3), (116, .iload 5, 2), (118, .invokestatic 47, 3), (121, .aload_n 0, 1), (122, .getfield 9, 3), (125, .iload 5, 2), (127, .invokestatic 47, 3), (130, .isub, 1), (131, .invokestatic 41, 3), (134, .invokestatic 58, 3), (137, .istore 7, 2), (139, .iload_n 1, 1), (140, .iload 7, 2), (142, .iadd, 1), (143, .istore_n 1, 1), (144, .iload_n 2, 1), (145, .iload 7, 2), (147, .aload_n 0, 1), (148, .getfield 18, 3), (151, .iload 5, 2), (153, .invokestatic 47, 3), (156, .imul, 1), (157, .iadd, 1), (158, .istore_n 2, 1), (159, .iinc 4 1, 3), (162, .goto (-103), 3), (165, .iload_n 2, 1), (166, .ireturn, 1)], yX0_greatestWorth, cX0_greatestWorth, 8, (some .int), 2, 44)
def az_m_X0_greatestGain : az_M := (0, [(0, .iconst (-1), 1), (1, .istore_n 2, 1), (2, .iconst 0, 1), (3, .istore_n 3, 1), (4, .iload_n 3, 1), (5, .aload_n 0, 1), (6, .getfield 24, 3), (9, .if_icmp .ge 42, 3), (12, .iload_n 1, 1), (13, .iload_n 3, 1), (14, .ishr, 1), (15, .iconst 1, 1), (16, .iand, 1), (17, .ifCond .ne 28, 3), (20, .iload_n 2, 1), (21, .ifCond .lt 22, 3), (24, .aload_n 0, 1), (25, .getfield 18, 3), (28, .iload_n 3, 1), (29, .invokestatic 47, 3), (32, .aload_n 0, 1), (33, .getfield 18, 3), (36, .iload_n 2, 1), (37, .invokestatic 47, 3), (40, .if_icmp .le 5, 3), (43, .iload_n 3, 1), (44, .istore_n 2, 1), (45, .iinc 3 1, 3), (48, .goto (-44), 3), (51, .iload_n 2, 1), (52, .ireturn, 1)], yX0_greatestGain, cX0_greatestGain, 4, (some .int), 1, 21)
def az_m_X0_keepFirst : az_M := (0, [(0, .iconst 0, 1), (1, .istore_n 2, 1), (2, .iload_n 2, 1), (3, .aload_n 0, 1), (4, .getfield 24, 3), (7, .if_icmp .ge 84, 3), (10, .aload_n 0, 1), (11, .getfield 15, 3), (14, .iload_n 2, 1), (15, .invokestatic 47, 3), (18, .istore_n 3, 1), (19, .aload_n 0, 1), (20, .getfield 9, 3), (23, .iload_n 2, 1), (24, .invokestatic 47, 3), (27, .istore 4, 2), (29, .iload 4, 2), (31, .iload_n 3, 1), (32, .if_icmp .gt 53, 3), (35, .aload_n 0, 1), (36, .getfield 9, 3), (39, .iload_n 2, 1), (40, .iload 4, 2), (42, .invokestatic 37, 3), (45, .aload_n 0, 1), (46, .getfield 15, 3), (49, .iload_n 2, 1), (50, .iload 4, 2), (52, .invokestatic 37, 3), (55, .aload_n 0, 1), (56, .invokevirtual 51, 3), (59, .ifCond .eq 20, 3), (62, .iload_n 1, 1), (63, .ldc 65, 2), (65, .if_icmp .eq 20, 3), (68, .aload_n 0, 1), (69, .invokevirtual 66, 3), (72, .iload_n 1, 1), (73, .if_icmp .ne 6, 3), (76, .goto 9, 3), (79, .iinc 4 1, 3), (82, .goto (-53), 3), (85, .iinc 2 1, 3), (88, .goto (-86), 3), (91, .return_, 1)], yX0_keepFirst, cX0_keepFirst, 5, none, 3, 71)
def az_m_X1_copyFrom : az_M := (1, [(0, .aload_n 1, 1), (1, .getfield 9, 3), (4, .aload_n 0, 1), (5, .getfield 9, 3), (8, .invokestatic 19, 3), (11, .aload_n 0, 1), (12, .aload_n 1, 1), (13, .getfield 15, 3), (16, .putfield 15, 3), (19, .return_, 1)], yX1_copyFrom, cX1_copyFrom, 2, none, 1, 22)
def az_m_X1_add : az_M := (1, [(0, .aload_n 0, 1), (1, .getfield 9, 3), (4, .arraylength, 1), (5, .iconst 1, 1), (6, .isub, 1), (7, .istore_n 2, 1), (8, .iload_n 2, 1), (9, .ifCond .le 27, 3), (12, .aload_n 0, 1), (13, .getfield 9, 3), (16, .iload_n 2, 1), (17, .aload_n 0, 1), (18, .getfield 9, 3), (21, .iload_n 2, 1), (22, .iconst 1, 1), (23, .isub, 1), (24, .invokestatic 23, 3), (27, .invokestatic 27, 3), (30, .iinc 2 (-1), 3), (33, .goto (-25), 3), (36, .aload_n 0, 1), (37, .getfield 9, 3), (40, .iconst 0, 1), (41, .iload_n 1, 1), (42, .invokestatic 27, 3), (45, .aload_n 0, 1), (46, .aload_n 0, 1), (47, .getfield 15, 3), (50, .iconst 1, 1), (51, .iadd, 1), (52, .bipush 8, 2), (54, .invokestatic 31, 3), (57, .putfield 15, 3), (60, .return_, 1)], yX1_add, cX1_add, 3, none, 1, 22)
def az_m_X2_restingPlans : az_M := (2, [(0, .iconst 0, 1), (1, .istore 4, 2), (3, .iconst 0, 1), (4, .istore 5, 2), (6, .iload 5, 2), (8, .iconst 3, 1), (9, .if_icmp .ge 30, 3), (12, .aload_n 0, 1), (13, .aload_n 1, 1), (14, .iload 5, 2), (16, .iload_n 2, 1), (17, .iload_n 3, 1), (18, .invokevirtual 30, 3), (21, .iload 4, 2), (23, .aload_n 0, 1), (24, .getfield 12, 3), (27, .invokevirtual 34, 3), (30, .iadd, 1), (31, .istore 4, 2), (33, .iinc 5 1, 3), (36, .goto (-30), 3), (39, .iload 4, 2), (41, .ireturn, 1)], yX2_restingPlans, cX2_restingPlans, 6, (some .int), 3, 76)
def az_m_X2_findFirstResting : az_M := (2, [(0, .aload_n 0, 1), (1, .iconst 0, 1), (2, .putfield 26, 3), (5, .iconst 0, 1), (6, .istore 4, 2), (8, .iload 4, 2), (10, .iconst 3, 1), (11, .if_icmp .ge 34, 3), (14, .aload_n 0, 1), (15, .aload_n 1, 1), (16, .iload 4, 2), (18, .iload_n 2, 1), (19, .iload_n 3, 1), (20, .invokevirtual 30, 3), (23, .aload_n 0, 1), (24, .getfield 12, 3), (27, .invokevirtual 38, 3), (30, .ifCond .eq 9, 3), (33, .aload_n 0, 1), (34, .ldc 42, 2), (36, .invokevirtual 43, 3), (39, .iinc 4 1, 3), (42, .goto (-34), 3), (45, .aload_n 0, 1), (46, .getfield 26, 3), (49, .ireturn, 1)], yX2_findFirstResting, cX2_findFirstResting, 5, (some .boolean), 5, 116)
def az_m_X2_bestRestingWorth : az_M := (2, [(0, .ldc 42, 2), (2, .istore 4, 2), (4, .iconst 0, 1), (5, .istore 5, 2), (7, .iload 5, 2), (9, .iconst 3, 1), (10, .if_icmp .ge 42, 3), (13, .aload_n 0, 1), (14, .aload_n 1, 1), (15, .iload 5, 2), (17, .iload_n 2, 1), (18, .iload_n 3, 1), (19, .invokevirtual 30, 3), (22, .aload_n 0, 1), (23, .getfield 12, 3), (26, .invokevirtual 38, 3), (29, .ifCond .eq 17, 3), (32, .iload 4, 2), (34, .aload_n 0, 1), (35, .getfield 12, 3), (38, .invokevirtual 47, 3), (41, .invokestatic 50, 3), (44, .istore 4, 2), (46, .iinc 5 1, 3), (49, .goto (-42), 3), (52, .iload 4, 2), (54, .ireturn, 1)], yX2_bestRestingWorth, cX2_bestRestingWorth, 6, (some .int), 3, 76)
def az_m_X2_bestWorth : az_M := (2, [(0, .ldc 42, 2), (2, .istore 4, 2), (4, .iconst 0, 1), (5, .istore 5, 2), (7, .iload 5, 2), (9, .iconst 3, 1), (10, .if_icmp .ge 42, 3), (13, .aload_n 0, 1), (14, .aload_n 1, 1), (15, .iload 5, 2), (17, .iload_n 2, 1), (18, .iload_n 3, 1), (19, .invokevirtual 56, 3), (22, .aload_n 0, 1), (23, .getfield 12, 3), (26, .invokevirtual 38, 3), (29, .ifCond .eq 17, 3), (32, .iload 4, 2), (34, .aload_n 0, 1), (35, .getfield 12, 3), (38, .invokevirtual 47, 3), (41, .invokestatic 50, 3), (44, .istore 4, 2), (46, .iinc 5 1, 3), (49, .goto (-42), 3), (52, .iload 4, 2), (54, .ireturn, 1)], yX2_bestWorth, cX2_bestWorth, 6, (some .int), 3, 73)
def az_m_X2_findFirstBest : az_M := (2, [(0, .aload_n 0, 1), (1, .aload_n 1, 1), (2, .iload_n 2, 1), (3, .iload_n 3, 1), (4, .invokevirtual 59, 3), (7, .istore 4, 2), (9, .aload_n 0, 1), (10, .iconst 0, 1), (11, .putfield 26, 3), (14, .iconst 0, 1), (15, .istore 5, 2), (17, .iload 5, 2), (19, .iconst 3, 1), (20, .if_icmp .ge 46, 3), (23, .aload_n 0, 1), (24, .aload_n 1, 1), (25, .iload 5, 2), (27, .iload_n 2, 1), (28, .iload_n 3, 1), (29, .invokevirtual 56, 3), (32, .aload_n 0, 1), (33, .getfield 12, 3), (36, .invokevirtual 38, 3), (39, .ifCond .eq 21, 3), (42, .aload_n 0, 1), (43, .getfield 12, 3), (46, .invokevirtual 47, 3), (49, .iload 4, 2), (51, .if_icmp .ne 9, 3), (54, .aload_n 0, 1), (55, .iload 4, 2), (57, .invokevirtual 43, 3), (60, .iinc 5 1, 3), (63, .goto (-46), 3), (66, .return_, 1)], yX2_findFirstBest, cX2_findFirstBest, 6, none, 5, 116)
def az_m_X2_presentOfFirst : az_M := (2, [(0, .iconst 0, 1), (1, .istore_n 1, 1), (2, .iconst 0, 1), (3, .istore_n 2, 1), (4, .iload_n 2, 1), (5, .aload_n 0, 1), (6, .getfield 22, 3), (9, .if_icmp .ge 20, 3), (12, .iload_n 1, 1), (13, .aload_n 0, 1), (14, .getfield 18, 3), (17, .iload_n 2, 1), (18, .invokestatic 63, 3), (21, .iadd, 1), (22, .istore_n 1, 1), (23, .iinc 2 1, 3), (26, .goto (-22), 3), (29, .iload_n 1, 1), (30, .ireturn, 1)], yX2_presentOfFirst, cX2_presentOfFirst, 3, (some .int), 1, 21)
def az_m_X2_offerFirst : az_M := (2, [(0, .aload_n 0, 1), (1, .getfield 12, 3), (4, .iload_n 1, 1), (5, .invokevirtual 67, 3), (8, .aload_n 0, 1), (9, .getfield 26, 3), (12, .ifCond .eq 10, 3), (15, .aload_n 0, 1), (16, .invokevirtual 70, 3), (19, .ifCond .eq 33, 3), (22, .aload_n 0, 1), (23, .getfield 12, 3), (26, .getfield 73, 3), (29, .aload_n 0, 1), (30, .getfield 18, 3), (33, .invokestatic 76, 3), (36, .aload_n 0, 1), (37, .aload_n 0, 1), (38, .getfield 12, 3), (41, .getfield 80, 3), (44, .putfield 22, 3), (47, .aload_n 0, 1), (48, .iconst 1, 1), (49, .putfield 26, 3), (52, .return_, 1)], yX2_offerFirst, cX2_offerFirst, 2, none, 4, 95)
def az_m_X2_isBoxBeforeFirst : az_M := (2, [(0, .iconst 0, 1), (1, .istore_n 1, 1), (2, .iload_n 1, 1), (3, .aload_n 0, 1), (4, .getfield 12, 3), (7, .getfield 80, 3), (10, .if_icmp .ge 59, 3), (13, .aload_n 0, 1), (14, .getfield 12, 3), (17, .getfield 73, 3), (20, .iload_n 1, 1), (21, .invokestatic 63, 3), (24, .aload_n 0, 1), (25, .getfield 18, 3), (28, .iload_n 1, 1), (29, .invokestatic 63, 3), (32, .if_icmp .eq 31, 3), (35, .aload_n 0, 1), (36, .getfield 12, 3), (39, .getfield 73, 3), (42, .iload_n 1, 1), (43, .invokestatic 63, 3), (46, .aload_n 0, 1), (47, .getfield 18, 3), (50, .iload_n 1, 1), (51, .invokestatic 63, 3), (54, .if_icmp .ge 7, 3), (57, .iconst 1, 1), (58, .goto 4, 3), (61, .iconst 0, 1), (62, .ireturn, 1), (63, .iinc 1 1, 3), (66, .goto (-64), 3), (69, .iconst 0, 1), (70, .ireturn, 1)], yX2_isBoxBeforeFirst, cX2_isBoxBeforeFirst, 2, (some .boolean), 1, 21)
def az_m_X2_beginBand : az_M := (2, [(0, .iload_n 1, 1), (1, .lookupswitch 53 #[(0, 27), (1, 41)], 27), (28, .aload_n 0, 1), (29, .getfield 12, 3), (32, .iconst 0, 1), (33, .iload_n 2, 1), (34, .iconst 1, 1), (35, .isub, 1), (36, .invokevirtual 83, 3), (39, .goto 27, 3), (42, .aload_n 0, 1), (43, .getfield 12, 3), (46, .iload_n 2, 1), (47, .iload_n 2, 1), (48, .invokevirtual 83, 3), (51, .goto 15, 3), (54, .aload_n 0, 1), (55, .getfield 12, 3), (58, .iload_n 2, 1), (59, .iconst 1, 1), (60, .iadd, 1), (61, .bipush 36, 2), (63, .invokevirtual 83, 3), (66, .return_, 1)], yX2_beginBand, cX2_beginBand, 3, none, 1, 22)
def az_m_X2_boxAll : az_M := (2, [(0, .aload_n 0, 1), (1, .iload_n 2, 1), (2, .iload_n 3, 1), (3, .invokevirtual 87, 3), (6, .iconst 0, 1), (7, .istore 5, 2), (9, .iload 5, 2), (11, .aload_n 1, 1), (12, .getfield 90, 3), (15, .if_icmp .ge 77, 3), (18, .iload_n 2, 1), (19, .iconst 2, 1), (20, .if_icmp .ne 15, 3), (23, .aload_n 1, 1), (24, .getfield 93, 3), (27, .iload 5, 2), (29, .invokestatic 63, 3), (32, .goto 12, 3), (35, .aload_n 1, 1), (36, .getfield 96, 3), (39, .iload 5, 2), (41, .invokestatic 63, 3), (44, .iload 4, 2), (46, .isub, 1), (47, .istore 6, 2), (49, .aload_n 0, 1), (50, .getfield 12, 3), (53, .iconst 0, 1), (54, .aload_n 1, 1), (55, .getfield 99, 3), (58, .iload 5, 2), (60, .invokestatic 63, 3), (63, .aload_n 1, 1), (64, .getfield 99, 3), (67, .iload 5, 2), (69, .invokestatic 63, 3), (72, .iload 6, 2), (74, .aload_n 1, 1), (75, .getfield 102, 3), (78, .iload 5, 2), (80, .invokestatic 63, 3), (83, .invokevirtual 105, 3), (86, .iinc 5 1, 3), (89, .goto (-80), 3), (92, .return_, 1)], yX2_boxAll, cX2_boxAll, 7, none, 2, 47)
def az_m_X2_boxResting : az_M := (2, [(0, .aload_n 0, 1), (1, .iload_n 2, 1), (2, .iload_n 3, 1), (3, .invokevirtual 87, 3), (6, .iconst 0, 1), (7, .istore 5, 2), (9, .iload 5, 2), (11, .aload_n 1, 1), (12, .getfield 90, 3), (15, .if_icmp .ge 131, 3), (18, .aload_n 1, 1), (19, .getfield 99, 3), (22, .iload 5, 2), (24, .invokestatic 63, 3), (27, .istore 6, 2), (29, .aload_n 1, 1), (30, .getfield 102, 3), (33, .iload 5, 2), (35, .invokestatic 63, 3), (38, .istore 7, 2), (40, .iload_n 2, 1), (41, .iconst 2, 1), (42, .if_icmp .ne 15, 3), (45, .aload_n 1, 1), (46, .getfield 93, 3), (49, .iload 5, 2), (51, .invokestatic 63, 3), (54, .goto 12, 3), (57, .aload_n 1, 1), (58, .getfield 96, 3), (61, .iload 5, 2), (63, .invokestatic 63, 3), (66, .iload 4, 2), (68, .isub, 1), (69, .istore 8, 2), (71, .iload_n 2, 1), (72, .ifCond .ne 15, 3), (75, .aload_n 1, 1), (76, .getfield 96, 3), (79, .iload 5, 2), (81, .invokestatic 63, 3), (84, .goto 12, 3), (87, .aload_n 1, 1), (88, .getfield 93, 3), (91, .iload 5, 2), (93, .invokestatic 63, 3), (96, .iload 4, 2), (98, .isub, 1), (99, .istore 9, 2), (101, .aload_n 0, 1), (102, .getfield 12, 3), (105, .iload 9, 2), (107, .iload 7, 2), (109, .if_icmp .le 8, 3), (112, .iload 6, 2), (114, .goto 4, 3), (117, .iconst 0, 1), (118, .iload 8, 2), (120, .iload 7, 2), (122, .if_icmp .ge 7, 3), (125, .iconst 0, 1), (126, .goto 5, 3), (129, .iload 6, 2), (131, .iload 6, 2), (133, .iload 8, 2), (135, .iload 7, 2), (137, .invokevirtual 105, 3), (140, .iinc 5 1, 3), (143, .goto (-134), 3), (146, .return_, 1)], yX2_boxResting, cX2_boxResting, 10, none, 2, 47)
def az_m_X3_copyFrom : az_M := (3, [(0, .aload_n 1, 1), (1, .getfield 9, 3), (4, .aload_n 0, 1), (5, .getfield 9, 3), (8, .invokestatic 25, 3), (11, .aload_n 1, 1), (12, .getfield 15, 3), (15, .aload_n 0, 1), (16, .getfield 15, 3), (19, .invokestatic 25, 3), (22, .aload_n 1, 1), (23, .getfield 18, 3), (26, .aload_n 0, 1), (27, .getfield 18, 3), (30, .invokestatic 25, 3), (33, .aload_n 0, 1), (34, .aload_n 1, 1), (35, .getfield 21, 3), (38, .putfield 21, 3), (41, .return_, 1)], yX3_copyFrom, cX3_copyFrom, 2, none, 1, 22)
def az_m_X3_has : az_M := (3, [(0, .iload_n 1, 1), (1, .ifCond .lt 15, 3), (4, .iload_n 1, 1), (5, .aload_n 0, 1), (6, .getfield 21, 3), (9, .if_icmp .ge 7, 3), (12, .iconst 1, 1), (13, .goto 4, 3), (16, .iconst 0, 1), (17, .ireturn, 1)], yX3_has, cX3_has, 2, (some .boolean), 0, 0)
def az_m_X3_add : az_M := (3, [(0, .iload_n 2, 1), (1, .iconst 1, 1), (2, .if_icmp .lt 18, 3), (5, .iload_n 2, 1), (6, .bipush 6, 2), (8, .if_icmp .gt 12, 3), (11, .aload_n 0, 1), (12, .getfield 21, 3), (15, .bipush 6, 2), (17, .if_icmp .lt 5, 3), (20, .iconst 0, 1), (21, .ireturn, 1), (22, .aload_n 0, 1), (23, .getfield 9, 3), (26, .aload_n 0, 1), (27, .getfield 21, 3), (30, .iload_n 1, 1), (31, .invokestatic 29, 3), (34, .aload_n 0, 1), (35, .getfield 15, 3), (38, .aload_n 0, 1), (39, .getfield 21, 3), (42, .iload_n 2, 1), (43, .invokestatic 29, 3), (46, .aload_n 0, 1), (47, .getfield 18, 3), (50, .aload_n 0, 1), (51, .getfield 21, 3), (54, .iconst 0, 1), (55, .invokestatic 29, 3), (58, .aload_n 0, 1), (59, .dup, 1), (60, .getfield 21, 3), (63, .iconst 1, 1), (64, .iadd, 1), (65, .putfield 21, 3), (68, .iconst 1, 1), (69, .ireturn, 1)], yX3_add, cX3_add, 3, (some .boolean), 1, 22)
def az_m_X3_mostRight : az_M := (3, [(0, .iload_n 1, 1), (1, .istore_n 2, 1), (2, .iload_n 1, 1), (3, .iconst 1, 1), (4, .iadd, 1), (5, .istore_n 3, 1), (6, .iload_n 3, 1), (7, .aload_n 0, 1), (8, .getfield 21, 3), (11, .if_icmp .ge 30, 3), (14, .aload_n 0, 1), (15, .getfield 18, 3), (18, .iload_n 3, 1), (19, .invokestatic 33, 3), (22, .aload_n 0, 1), (23, .getfield 18, 3), (26, .iload_n 2, 1), (27, .invokestatic 33, 3), (30, .if_icmp .le 5, 3), (33, .iload_n 3, 1), (34, .istore_n 2, 1), (35, .iinc 3 1, 3), (38, .goto (-32), 3), (41, .iload_n 2, 1), (42, .ireturn, 1)], yX3_mostRight, cX3_mostRight, 4, (some .int), 1, 21)
def az_m_X3_lengthen : az_M := (3, [(0, .iconst 0, 1), (1, .istore_n 2, 1), (2, .iload_n 2, 1), (3, .aload_n 0, 1), (4, .getfield 21, 3), (7, .if_icmp .ge 32, 3), (10, .aload_n 0, 1), (11, .getfield 15, 3), (14, .iload_n 2, 1), (15, .aload_n 0, 1), (16, .getfield 15, 3), (19, .iload_n 2, 1), (20, .invokestatic 33, 3), (23, .iload_n 1, 1), (24, .iadd, 1), (25, .bipush 6, 2), (27, .invokestatic 37, 3), (30, .invokestatic 29, 3), (33, .iinc 2 1, 3), (36, .goto (-34), 3), (39, .return_, 1)], yX3_lengthen, cX3_lengthen, 3, none, 1, 22)
def az_m_X4_copyFrom : az_M := (4, [(0, .aload_n 1, 1), (1, .getfield 9, 3), (4, .aload_n 0, 1), (5, .getfield 9, 3), (8, .invokestatic 34, 3), (11, .aload_n 1, 1), (12, .getfield 15, 3), (15, .aload_n 0, 1), (16, .getfield 15, 3), (19, .invokestatic 34, 3), (22, .aload_n 1, 1), (23, .getfield 18, 3), (26, .aload_n 0, 1), (27, .getfield 18, 3), (30, .invokestatic 34, 3), (33, .aload_n 1, 1), (34, .getfield 21, 3), (37, .aload_n 0, 1), (38, .getfield 21, 3), (41, .invokestatic 34, 3), (44, .aload_n 1, 1), (45, .getfield 24, 3), (48, .aload_n 0, 1), (49, .getfield 24, 3), (52, .invokestatic 34, 3), (55, .aload_n 1, 1), (56, .getfield 27, 3), (59, .aload_n 0, 1), (60, .getfield 27, 3), (63, .invokestatic 34, 3), (66, .aload_n 0, 1), (67, .aload_n 1, 1), (68, .getfield 30, 3), (71, .putfield 30, 3), (74, .return_, 1)], yX4_copyFrom, cX4_copyFrom, 2, none, 1, 22)
def az_m_X4_has : az_M := (4, [(0, .iload_n 1, 1), (1, .ifCond .lt 15, 3), (4, .iload_n 1, 1), (5, .aload_n 0, 1), (6, .getfield 30, 3), (9, .if_icmp .ge 7, 3), (12, .iconst 1, 1), (13, .goto 4, 3), (16, .iconst 0, 1), (17, .ireturn, 1)], yX4_has, cX4_has, 2, (some .boolean), 0, 0)
def az_m_X4_add : az_M := (4, [(0, .iload_n 1, 1), (1, .iconst 1, 1), (2, .if_icmp .lt 17, 3), (5, .iload_n 1, 1), (6, .bipush 9, 2), (8, .if_icmp .gt 11, 3), (11, .aload_n 0, 1), (12, .getfield 30, 3), (15, .iconst 4, 1), (16, .if_icmp .lt 5, 3), (19, .iconst 0, 1), (20, .ireturn, 1), (21, .aload_n 0, 1), (22, .getfield 9, 3), (25, .aload_n 0, 1), (26, .getfield 30, 3), (29, .iload_n 1, 1), (30, .invokestatic 38, 3), (33, .aload_n 0, 1), (34, .getfield 15, 3), (37, .aload_n 0, 1), (38, .getfield 30, 3), (41, .iload_n 2, 1), (42, .invokestatic 38, 3), (45, .aload_n 0, 1), (46, .getfield 18, 3), (49, .aload_n 0, 1), (50, .getfield 30, 3), (53, .iload_n 3, 1), (54, .invokestatic 38, 3), (57, .aload_n 0, 1), (58, .getfield 21, 3), (61, .aload_n 0, 1), (62, .getfield 30, 3), (65, .iload 4, 2), (67, .invokestatic 38, 3), (70, .aload_n 0, 1), (71, .getfield 24, 3), (74, .aload_n 0, 1), (75, .getfield 30, 3), (78, .iload 5, 2), (80, .invokestatic 38, 3), (83, .aload_n 0, 1), (84, .getfield 27, 3), (87, .aload_n 0, 1), (88, .getfield 30, 3), (91, .iload 6, 2), (93, .invokestatic 38, 3), (96, .aload_n 0, 1), (97, .dup, 1), (98, .getfield 30, 3), (101, .iconst 1, 1), (102, .iadd, 1), (103, .putfield 30, 3), (106, .iconst 1, 1), (107, .ireturn, 1)], yX4_add, cX4_add, 7, (some .boolean), 1, 22)
def az_m_X4_people : az_M := (4, [(0, .iconst 0, 1), (1, .istore_n 1, 1), (2, .iconst 0, 1), (3, .istore_n 2, 1), (4, .iload_n 2, 1), (5, .aload_n 0, 1), (6, .getfield 30, 3), (9, .if_icmp .ge 20, 3), (12, .iload_n 1, 1), (13, .aload_n 0, 1), (14, .getfield 9, 3), (17, .iload_n 2, 1), (18, .invokestatic 42, 3), (21, .iadd, 1), (22, .istore_n 1, 1), (23, .iinc 2 1, 3), (26, .goto (-22), 3), (29, .iload_n 1, 1), (30, .ireturn, 1)], yX4_people, cX4_people, 3, (some .int), 1, 21)
def az_m_X5_add : az_M := (5, [(0, .aload_n 0, 1), (1, .getfield 9, 3), (4, .aload_n 0, 1), (5, .getfield 15, 3), (8, .iload_n 1, 1), (9, .invokestatic 19, 3), (12, .aload_n 0, 1), (13, .aload_n 0, 1), (14, .getfield 15, 3), (17, .iconst 1, 1), (18, .iadd, 1), (19, .bipush 80, 2), (21, .invokestatic 23, 3), (24, .putfield 15, 3), (27, .aload_n 0, 1), (28, .getfield 15, 3), (31, .ireturn, 1)], yX5_add, cX5_add, 2, (some .int), 1, 22)
def az_m_X5_clear : az_M := (5, [(0, .aload_n 0, 1), (1, .iconst 0, 1), (2, .putfield 15, 3), (5, .return_, 1)], yX5_clear, cX5_clear, 1, none, 0, 0)
def az_m_X5_tellTo : az_M := (5, [(0, .aload_n 0, 1), (1, .invokevirtual 29, 3), (4, .istore_n 2, 1), (5, .iload_n 2, 1), (6, .ifCond .lt 9, 3), (9, .sipush (-1000), 3), (12, .iload_n 2, 1), (13, .isub, 1), (14, .ireturn, 1), (15, .iconst 0, 1), (16, .istore_n 3, 1), (17, .iconst 0, 1), (18, .istore 4, 2), (20, .iload 4, 2), (22, .aload_n 0, 1), (23, .getfield 15, 3), (26, .if_icmp .ge 42, 3), (29, .aload_n 0, 1), (30, .aload_n 1, 1), (31, .iload 4, 2), (33, .invokevirtual 33, 3), (36, .ifCond .ne 10, 3), (39, .sipush (-2000), 3), (42, .iload 4, 2), (44, .isub, 1), (45, .ireturn, 1), (46, .iinc 3 1, 3), (49, .iload 4, 2), (51, .iconst 1, 1), (52, .aload_n 0, 1), (53, .iload 4, 2), (55, .invokevirtual 37, 3), (58, .invokevirtual 41, 3), (61, .iadd, 1), (62, .iadd, 1), (63, .istore 4, 2), (65, .goto (-45), 3), (68, .iload_n 3, 1), (69, .ireturn, 1)], yX5_tellTo, cX5_tellTo, 5, (some .int), 7, 160)
def az_m_X5_badPlace : az_M := (5, [(0, .aload_n 0, 1), (1, .getfield 15, 3), (4, .ifCond .ne 5, 3), (7, .iconst 0, 1), (8, .ireturn, 1), (9, .iconst 0, 1), (10, .istore_n 1, 1), (11, .iload_n 1, 1), (12, .aload_n 0, 1), (13, .getfield 15, 3), (16, .if_icmp .ge 73, 3), (19, .aload_n 0, 1), (20, .iload_n 1, 1), (21, .invokevirtual 37, 3), (24, .astore_n 2, 1), (25, .aload_n 2, 1), (26, .invokevirtual 46, 3), (29, .ifCond .eq 5, 3), (32, .iload_n 1, 1), (33, .ireturn, 1), (34, .iconst 0, 1), (35, .istore_n 3, 1), (36, .iload_n 3, 1), (37, .aload_n 2, 1), (38, .invokevirtual 41, 3), (41, .if_icmp .ge 32, 3), (44, .aload_n 0, 1), (45, .iload_n 1, 1), (46, .iconst 1, 1), (47, .iadd, 1), (48, .iload_n 3, 1), (49, .iadd, 1), (50, .aload_n 2, 1), (51, .iload_n 3, 1), (52, .invokevirtual 50, 3), (55, .invokevirtual 54, 3), (58, .ifCond .ne 9, 3), (61, .iload_n 1, 1), (62, .iconst 1, 1), (63, .iadd, 1), (64, .iload_n 3, 1), (65, .iadd, 1), (66, .ireturn, 1), (67, .iinc 3 1, 3), (70, .goto (-34), 3), (73, .iload_n 1, 1), (74, .iconst 1, 1), (75, .aload_n 0, 1), (76, .iload_n 1, 1), (77, .invokevirtual 37, 3), (80, .invokevirtual 41, 3), (83, .iadd, 1), (84, .iadd, 1), (85, .istore_n 1, 1), (86, .goto (-75), 3), (89, .iconst (-1), 1), (90, .ireturn, 1)], yX5_badPlace, cX5_badPlace, 4, (some .int), 6, 136)
def az_m_X5_formAt : az_M := (5, [(0, .aload_n 0, 1), (1, .iload_n 1, 1), (2, .invokevirtual 58, 3), (5, .lookupswitch 61 #[(99, 43), (114, 58), (115, 55), (119, 49)], 43), (48, .aload_n 0, 1), (49, .iload_n 1, 1), (50, .invokevirtual 62, 3), (53, .areturn, 1), (54, .aload_n 0, 1), (55, .iload_n 1, 1), (56, .invokevirtual 62, 3), (59, .areturn, 1), (60, .ldc 65, 2), (62, .areturn, 1), (63, .ldc 67, 2), (65, .areturn, 1), (66, .ldc 69, 2), (68, .areturn, 1)], yX5_formAt, cX5_formAt, 2, (some (.object "java/lang/String")), 3, 63)
def az_m_X5_numberForm : az_M := (5, [(0, .aload_n 0, 1), (1, .iload_n 1, 1), (2, .iconst 2, 1), (3, .iadd, 1), (4, .invokevirtual 71, 3), (7, .ifCond .eq 8, 3), (10, .ldc 75, 2), (12, .goto 5, 3), (15, .ldc 77, 2), (17, .areturn, 1)], yX5_numberForm, cX5_numberForm, 2, (some (.object "java/lang/String")), 2, 42)
def az_m_X5_fits : az_M := (5, [(0, .iload_n 2, 1), (1, .lookupswitch 73 #[(35, 35), (102, 57), (107, 41)], 35), (36, .aload_n 0, 1), (37, .iload_n 1, 1), (38, .invokevirtual 71, 3), (41, .ireturn, 1), (42, .aload_n 0, 1), (43, .iload_n 1, 1), (44, .ldc 79, 2), (46, .invokevirtual 81, 3), (49, .ifCond .lt 7, 3), (52, .iconst 1, 1), (53, .goto 4, 3), (56, .iconst 0, 1), (57, .ireturn, 1), (58, .aload_n 0, 1), (59, .iload_n 1, 1), (60, .ldc 85, 2), (62, .invokevirtual 81, 3), (65, .ifCond .lt 7, 3), (68, .iconst 1, 1), (69, .goto 4, 3), (72, .iconst 0, 1), (73, .ireturn, 1), (74, .aload_n 0, 1), (75, .iload_n 1, 1), (76, .invokevirtual 58, 3), (79, .iload_n 2, 1), (80, .if_icmp .ne 7, 3), (83, .iconst 1, 1), (84, .goto 4, 3), (87, .iconst 0, 1), (88, .ireturn, 1)], yX5_fits, cX5_fits, 3, (some .boolean), 5, 114)
def az_m_X5_tellStatement : az_M := (5, [(0, .aload_n 0, 1), (1, .iload_n 2, 1), (2, .invokevirtual 58, 3), (5, .lookupswitch 98 #[(99, 43), (114, 67), (115, 91), (119, 55)], 43), (48, .aload_n 1, 1), (49, .aload_n 0, 1), (50, .iload_n 2, 1), (51, .iconst 1, 1), (52, .iadd, 1), (53, .invokevirtual 87, 3), (56, .invokevirtual 90, 3), (59, .ireturn, 1), (60, .aload_n 1, 1), (61, .aload_n 0, 1), (62, .iload_n 2, 1), (63, .iconst 1, 1), (64, .iadd, 1), (65, .invokevirtual 87, 3), (68, .invokevirtual 95, 3), (71, .ireturn, 1), (72, .aload_n 1, 1), (73, .getfield 98, 3), (76, .aload_n 0, 1), (77, .iload_n 2, 1), (78, .iconst 1, 1), (79, .iadd, 1), (80, .ldc 85, 2), (82, .invokevirtual 81, 3), (85, .aload_n 0, 1), (86, .iload_n 2, 1), (87, .iconst 2, 1), (88, .iadd, 1), (89, .invokevirtual 102, 3), (92, .invokevirtual 105, 3), (95, .ireturn, 1), (96, .aload_n 0, 1), (97, .aload_n 1, 1), (98, .iload_n 2, 1), (99, .invokevirtual 111, 3), (102, .ireturn, 1), (103, .iconst 0, 1), (104, .ireturn, 1)], yX5_tellStatement, cX5_tellStatement, 3, (some .boolean), 6, 138)
def az_m_X5_tellSort : az_M := (5, [(0, .aload_n 0, 1), (1, .iload_n 2, 1), (2, .iconst 2, 1), (3, .iadd, 1), (4, .ldc 79, 2), (6, .invokevirtual 81, 3), (9, .istore_n 3, 1), (10, .aload_n 0, 1), (11, .iload_n 2, 1), (12, .iconst 3, 1), (13, .iadd, 1), (14, .invokevirtual 102, 3), (17, .istore 4, 2), (19, .aload_n 1, 1), (20, .iload_n 3, 1), (21, .iload 4, 2), (23, .invokevirtual 114, 3), (26, .ifCond .eq 50, 3), (29, .aload_n 1, 1), (30, .getfield 117, 3), (33, .aload_n 0, 1), (34, .iload_n 2, 1), (35, .iconst 1, 1), (36, .iadd, 1), (37, .invokevirtual 102, 3), (40, .iload_n 3, 1), (41, .iload 4, 2), (43, .aload_n 0, 1), (44, .iload_n 2, 1), (45, .iconst 5, 1), (46, .iadd, 1), (47, .invokevirtual 102, 3), (50, .aload_n 0, 1), (51, .iload_n 2, 1), (52, .bipush 6, 2), (54, .iadd, 1), (55, .invokevirtual 102, 3), (58, .aload_n 0, 1), (59, .iload_n 2, 1), (60, .bipush 7, 2), (62, .iadd, 1), (63, .invokevirtual 102, 3), (66, .invokevirtual 121, 3), (69, .ifCond .eq 7, 3), (72, .iconst 1, 1), (73, .goto 4, 3), (76, .iconst 0, 1), (77, .ireturn, 1)], yX5_tellSort, cX5_tellSort, 5, (some .boolean), 5, 114)
def az_m_X5_letterAt : az_M := (5, [(0, .iload_n 1, 1), (1, .ifCond .lt 29, 3), (4, .iload_n 1, 1), (5, .aload_n 0, 1), (6, .getfield 15, 3), (9, .if_icmp .ge 21, 3), (12, .iload_n 1, 1), (13, .aload_n 0, 1), (14, .getfield 9, 3), (17, .arraylength, 1), (18, .if_icmp .ge 12, 3), (21, .aload_n 0, 1), (22, .getfield 9, 3), (25, .iload_n 1, 1), (26, .iaload, 1), (27, .goto 4, 3), (30, .iconst (-1), 1), (31, .ireturn, 1)], yX5_letterAt, cX5_letterAt, 2, (some .int), 0, 0)
def az_m_X5_isDigit : az_M := (5, [(0, .aload_n 0, 1), (1, .iload_n 1, 1), (2, .invokevirtual 58, 3), (5, .bipush 48, 2), (7, .if_icmp .lt 17, 3), (10, .aload_n 0, 1), (11, .iload_n 1, 1), (12, .invokevirtual 58, 3), (15, .bipush 57, 2), (17, .if_icmp .gt 7, 3), (20, .iconst 1, 1), (21, .goto 4, 3), (24, .iconst 0, 1), (25, .ireturn, 1)], yX5_isDigit, cX5_isDigit, 2, (some .boolean), 1, 21)
def az_m_X5_digitAt : az_M := (5, [(0, .aload_n 0, 1), (1, .iload_n 1, 1), (2, .invokevirtual 58, 3), (5, .bipush 48, 2), (7, .isub, 1), (8, .ireturn, 1)], yX5_digitAt, cX5_digitAt, 2, (some .int), 1, 21)
def az_m_X5_numberAt : az_M := (5, [(0, .aload_n 0, 1), (1, .iload_n 1, 1), (2, .invokevirtual 102, 3), (5, .istore_n 2, 1), (6, .aload_n 0, 1), (7, .iload_n 1, 1), (8, .iconst 1, 1), (9, .iadd, 1), (10, .invokevirtual 71, 3), (13, .ifCond .eq 18, 3), (16, .bipush 10, 2), (18, .iload_n 2, 1), (19, .imul, 1), (20, .aload_n 0, 1), (21, .iload_n 1, 1), (22, .iconst 1, 1), (23, .iadd, 1), (24, .invokevirtual 102, 3), (27, .iadd, 1), (28, .goto 4, 3), (31, .iload_n 2, 1), (32, .ireturn, 1)], yX5_numberAt, cX5_numberAt, 3, (some .int), 2, 42)
def az_m_X5_kindAt : az_M := (5, [(0, .aload_n 0, 1), (1, .iload_n 1, 1), (2, .invokevirtual 58, 3), (5, .istore_n 3, 1), (6, .iload_n 3, 1), (7, .ifCond .ge 7, 3), (10, .iconst (-1), 1), (11, .goto 9, 3), (14, .aload_n 2, 1), (15, .iload_n 3, 1), (16, .i2c, 1), (17, .invokevirtual 126, 3), (20, .ireturn, 1)], yX5_kindAt, cX5_kindAt, 4, (some .int), 4, 91)
def az_m_X6_copyFrom : az_M := (6, [(0, .aload_n 0, 1), (1, .getfield 12, 3), (4, .aload_n 1, 1), (5, .getfield 12, 3), (8, .invokevirtual 52, 3), (11, .aload_n 0, 1), (12, .getfield 21, 3), (15, .aload_n 1, 1), (16, .getfield 21, 3), (19, .invokevirtual 56, 3), (22, .aload_n 0, 1), (23, .getfield 28, 3), (26, .aload_n 1, 1), (27, .getfield 28, 3), (30, .invokevirtual 59, 3), (33, .aload_n 0, 1), (34, .aload_n 1, 1), (35, .getfield 32, 3), (38, .putfield 32, 3), (41, .aload_n 0, 1), (42, .aload_n 1, 1), (43, .getfield 36, 3), (46, .putfield 36, 3), (49, .aload_n 0, 1), (50, .aload_n 1, 1), (51, .getfield 39, 3), (54, .putfield 39, 3), (57, .return_, 1)], yX6_copyFrom, cX6_copyFrom, 2, none, 2, 43)
def az_m_X6_setChairs : az_M := (6, [(0, .iload_n 1, 1), (1, .ifCond .lt 9, 3), (4, .iload_n 1, 1), (5, .bipush 60, 2), (7, .if_icmp .le 5, 3), (10, .iconst 0, 1), (11, .ireturn, 1), (12, .aload_n 0, 1), (13, .iload_n 1, 1), (14, .putfield 32, 3), (17, .iconst 1, 1), (18, .ireturn, 1)], yX6_setChairs, cX6_setChairs, 2, (some .boolean), 0, 0)
def az_m_X6_addWeek : az_M := (6, [(0, .iload_n 1, 1), (1, .ifCond .lt 9, 3), (4, .iload_n 1, 1), (5, .bipush 60, 2), (7, .if_icmp .le 5, 3), (10, .iconst 0, 1), (11, .ireturn, 1), (12, .aload_n 0, 1), (13, .getfield 28, 3), (16, .iload_n 1, 1), (17, .invokevirtual 62, 3), (20, .iconst 1, 1), (21, .ireturn, 1)], yX6_addWeek, cX6_addWeek, 2, (some .boolean), 2, 44)
def az_m_X6_mayFollow : az_M := (6, [(0, .iload_n 1, 1), (1, .iconst 2, 1), (2, .if_icmp .eq 8, 3), (5, .iload_n 1, 1), (6, .iconst 3, 1), (7, .if_icmp .ne 7, 3), (10, .iconst 1, 1), (11, .goto 4, 3), (14, .iconst 0, 1), (15, .istore_n 3, 1), (16, .iload_n 3, 1), (17, .ifCond .eq 14, 3), (20, .aload_n 0, 1), (21, .getfield 21, 3), (24, .iload_n 2, 1), (25, .invokevirtual 66, 3), (28, .ifCond .eq 7, 3), (31, .iconst 1, 1), (32, .goto 4, 3), (35, .iconst 0, 1), (36, .ireturn, 1)], yX6_mayFollow, cX6_mayFollow, 4, (some .boolean), 1, 21)
def az_m_X6_presentAgo : az_M := (6, [(0, .aload_n 0, 1), (1, .getfield 28, 3), (4, .getfield 70, 3), (7, .astore_n 2, 1), (8, .iload_n 1, 1), (9, .iconst 1, 1), (10, .if_icmp .lt 28, 3), (13, .iload_n 1, 1), (14, .aload_n 0, 1), (15, .getfield 28, 3), (18, .getfield 73, 3), (21, .if_icmp .gt 17, 3), (24, .iload_n 1, 1), (25, .aload_n 2, 1), (26, .arraylength, 1), (27, .if_icmp .gt 11, 3), (30, .aload_n 2, 1), (31, .iload_n 1, 1), (32, .iconst 1, 1), (33, .isub, 1), (34, .iaload, 1), (35, .goto 7, 3), (38, .aload_n 0, 1), (39, .getfield 32, 3), (42, .ireturn, 1)], yX6_presentAgo, cX6_presentAgo, 3, (some .int), 0, 0)
def az_m_X6_meanPresent : az_M := (6, [(0, .iconst 0, 1), (1, .istore_n 2, 1), (2, .iconst 1, 1), (3, .istore_n 3, 1), (4, .iload_n 3, 1), (5, .iload_n 1, 1), (6, .if_icmp .gt 17, 3), (9, .iload_n 2, 1), (10, .aload_n 0, 1), (11, .iload_n 3, 1), (12, .invokevirtual 76, 3), (15, .iadd, 1), (16, .istore_n 2, 1), (17, .iinc 3 1, 3), (20, .goto (-16), 3), (23, .iload_n 2, 1), (24, .iload_n 1, 1), (25, .invokestatic 80, 3), (28, .ireturn, 1)], yX6_meanPresent, cX6_meanPresent, 4, (some .int), 1, 22)
def az_m_X6_foretells : az_M := (6, [(0, .iload_n 1, 1), (1, .tableswitch 95 0 4 #[35, 41, 59, 65, 83], 35), (36, .aload_n 0, 1), (37, .iload_n 2, 1), (38, .invokevirtual 76, 3), (41, .ireturn, 1), (42, .iconst 0, 1), (43, .aload_n 0, 1), (44, .getfield 12, 3), (47, .invokevirtual 84, 3), (50, .aload_n 0, 1), (51, .iload_n 2, 1), (52, .invokevirtual 76, 3), (55, .isub, 1), (56, .invokestatic 88, 3), (59, .ireturn, 1), (60, .aload_n 0, 1), (61, .iload_n 2, 1), (62, .invokevirtual 93, 3), (65, .ireturn, 1), (66, .iconst 0, 1), (67, .iconst 2, 1), (68, .aload_n 0, 1), (69, .iconst 1, 1), (70, .invokevirtual 76, 3), (73, .imul, 1), (74, .aload_n 0, 1), (75, .iload_n 2, 1), (76, .invokevirtual 76, 3), (79, .isub, 1), (80, .invokestatic 88, 3), (83, .ireturn, 1), (84, .iconst 0, 1), (85, .aload_n 0, 1), (86, .iload_n 2, 1), (87, .invokevirtual 93, 3), (90, .iload_n 2, 1), (91, .isub, 1), (92, .invokestatic 88, 3), (95, .ireturn, 1), (96, .bipush 10, 2), (98, .iload_n 2, 1), (99, .imul, 1), (100, .ireturn, 1)], yX6_foretells, cX6_foretells, 3, (some .int), 2, 45)
def az_m_X6_isRight : az_M := (6, [(0, .iload_n 1, 1), (1, .aload_n 0, 1), (2, .getfield 32, 3), (5, .if_icmp .gt 7, 3), (8, .iconst 1, 1), (9, .goto 4, 3), (12, .iconst 0, 1), (13, .aload_n 0, 1), (14, .getfield 49, 3), (17, .aload_n 0, 1), (18, .getfield 32, 3), (21, .if_icmp .gt 7, 3), (24, .iconst 1, 1), (25, .goto 4, 3), (28, .iconst 0, 1), (29, .if_icmp .ne 7, 3), (32, .iconst 1, 1), (33, .goto 4, 3), (36, .iconst 0, 1), (37, .ireturn, 1)], yX6_isRight, cX6_isRight, 2, (some .boolean), 0, 0)
def az_m_X6_decide : az_M := (6, [(0, .aload_n 0, 1), (1, .invokevirtual 96, 3), (4, .aload_n 0, 1), (5, .invokevirtual 99, 3), (8, .return_, 1)], yX6_decide, cX6_decide, 1, none, 4, 88)
def az_m_X6_askRules : az_M := (6, [(0, .iconst 0, 1), (1, .istore_n 1, 1), (2, .iload_n 1, 1), (3, .aload_n 0, 1), (4, .getfield 21, 3), (7, .getfield 102, 3), (10, .if_icmp .ge 43, 3), (13, .aload_n 0, 1), (14, .getfield 42, 3), (17, .iload_n 1, 1), (18, .aload_n 0, 1), (19, .aload_n 0, 1), (20, .getfield 21, 3), (23, .getfield 103, 3), (26, .iload_n 1, 1), (27, .invokestatic 106, 3), (30, .aload_n 0, 1), (31, .getfield 21, 3), (34, .getfield 110, 3), (37, .iload_n 1, 1), (38, .invokestatic 106, 3), (41, .invokevirtual 113, 3), (44, .invokestatic 116, 3), (47, .iinc 1 1, 3), (50, .goto (-48), 3), (53, .return_, 1)], yX6_askRules, cX6_askRules, 2, none, 3, 67)
def az_m_X6_askSorts : az_M := (6, [(0, .aload_n 0, 1), (1, .iconst 0, 1), (2, .putfield 49, 3), (5, .iconst 0, 1), (6, .istore_n 1, 1), (7, .iload_n 1, 1), (8, .aload_n 0, 1), (9, .getfield 12, 3), (12, .getfield 120, 3), (15, .if_icmp .ge 34, 3), (18, .aload_n 0, 1), (19, .getfield 12, 3), (22, .getfield 121, 3), (25, .iload_n 1, 1), (26, .invokestatic 106, 3), (29, .iconst 5, 1), (30, .if_icmp .eq 13, 3), (33, .aload_n 0, 1), (34, .iload_n 1, 1), (35, .aload_n 0, 1), (36, .iload_n 1, 1), (37, .invokevirtual 122, 3), (40, .invokevirtual 125, 3), (43, .iinc 1 1, 3), (46, .goto (-39), 3), (49, .iconst 0, 1), (50, .istore_n 1, 1), (51, .iload_n 1, 1), (52, .aload_n 0, 1), (53, .getfield 12, 3), (56, .getfield 120, 3), (59, .if_icmp .ge 57, 3), (62, .aload_n 0, 1), (63, .getfield 12, 3), (66, .getfield 121, 3), (69, .iload_n 1, 1), (70, .invokestatic 106, 3), (73, .iconst 5, 1), (74, .if_icmp .ne 36, 3), (77, .aload_n 0, 1), (78, .iload_n 1, 1), (79, .aload_n 0, 1), (80, .getfield 49, 3), (83, .aload_n 0, 1), (84, .getfield 12, 3), (87, .getfield 129, 3), (90, .iload_n 1, 1), (91, .invokestatic 106, 3), (94, .iadd, 1), (95, .aload_n 0, 1), (96, .getfield 32, 3), (99, .if_icmp .gt 7, 3), (102, .iconst 1, 1), (103, .goto 4, 3), (106, .iconst 0, 1), (107, .invokevirtual 125, 3), (110, .iinc 1 1, 3), (113, .goto (-62), 3), (116, .return_, 1)], yX6_askSorts, cX6_askSorts, 2, none, 3, 66)
def az_m_X6_settle : az_M := (6, [(0, .aload_n 0, 1), (1, .getfield 46, 3), (4, .iload_n 1, 1), (5, .iload_n 2, 1), (6, .ifCond .eq 7, 3), (9, .iconst 1, 1), (10, .goto 4, 3), (13, .iconst 0, 1), (14, .invokestatic 116, 3), (17, .iload_n 2, 1), (18, .ifCond .eq 23, 3), (21, .aload_n 0, 1), (22, .dup, 1), (23, .getfield 49, 3), (26, .aload_n 0, 1), (27, .getfield 12, 3), (30, .getfield 129, 3), (33, .iload_n 1, 1), (34, .invokestatic 106, 3), (37, .iadd, 1), (38, .putfield 49, 3), (41, .return_, 1)], yX6_settle, cX6_settle, 3, none, 1, 22)
def az_m_X6_wantsToGo : az_M := (6, [(0, .aload_n 0, 1), (1, .getfield 12, 3), (4, .getfield 132, 3), (7, .iload_n 1, 1), (8, .invokestatic 106, 3), (11, .istore_n 2, 1), (12, .aload_n 0, 1), (13, .getfield 12, 3), (16, .getfield 121, 3), (19, .iload_n 1, 1), (20, .invokestatic 106, 3), (23, .tableswitch 103 0 4 #[33, 103, 35, 56, 84], 33), (56, .iconst 1, 1), (57, .ireturn, 1), (58, .aload_n 0, 1), (59, .getfield 42, 3), (62, .iload_n 2, 1), (63, .invokestatic 106, 3), (66, .aload_n 0, 1), (67, .getfield 32, 3), (70, .if_icmp .gt 7, 3), (73, .iconst 1, 1), (74, .goto 4, 3), (77, .iconst 0, 1), (78, .ireturn, 1), (79, .aload_n 0, 1), (80, .getfield 42, 3), (83, .aload_n 0, 1), (84, .getfield 21, 3), (87, .iload_n 2, 1), (88, .invokevirtual 135, 3), (91, .invokestatic 106, 3), (94, .aload_n 0, 1), (95, .getfield 32, 3), (98, .if_icmp .gt 7, 3), (101, .iconst 1, 1), (102, .goto 4, 3), (105, .iconst 0, 1), (106, .ireturn, 1), (107, .aload_n 0, 1), (108, .getfield 39, 3), (111, .iload_n 2, 1), (112, .iconst 1, 1), (113, .iadd, 1), (114, .invokestatic 138, 3), (117, .ifCond .ne 7, 3), (120, .iconst 1, 1), (121, .goto 4, 3), (124, .iconst 0, 1), (125, .ireturn, 1), (126, .iconst 0, 1), (127, .ireturn, 1)], yX6_wantsToGo, cX6_wantsToGo, 3, (some .boolean), 2, 44)
def az_m_X6_goBy : az_M := (6, [(0, .aload_n 0, 1), (1, .invokevirtual 96, 3), (4, .aload_n 0, 1), (5, .invokevirtual 99, 3), (8, .iconst 0, 1), (9, .istore_n 1, 1), (10, .iload_n 1, 1), (11, .aload_n 0, 1), (12, .getfield 21, 3), (15, .getfield 102, 3), (18, .if_icmp .ge 48, 3), (21, .aload_n 0, 1), (22, .aload_n 0, 1), (23, .getfield 42, 3), (26, .iload_n 1, 1), (27, .invokestatic 106, 3), (30, .invokevirtual 141, 3), (33, .ifCond .eq 27, 3), (36, .aload_n 0, 1), (37, .getfield 21, 3), (40, .getfield 144, 3), (43, .iload_n 1, 1), (44, .aload_n 0, 1), (45, .getfield 21, 3), (48, .getfield 144, 3), (51, .iload_n 1, 1), (52, .invokestatic 106, 3), (55, .iconst 1, 1), (56, .iadd, 1), (57, .invokestatic 116, 3), (60, .iinc 1 1, 3), (63, .goto (-53), 3), (66, .aload_n 0, 1), (67, .getfield 28, 3), (70, .aload_n 0, 1), (71, .getfield 49, 3), (74, .invokevirtual 62, 3), (77, .aload_n 0, 1), (78, .dup, 1), (79, .getfield 39, 3), (82, .iconst 1, 1), (83, .iadd, 1), (84, .putfield 39, 3), (87, .aload_n 0, 1), (88, .getfield 49, 3), (91, .ireturn, 1)], yX6_goBy, cX6_goBy, 2, (some .int), 4, 88)
def az_m_X6_worthToOne : az_M := (6, [(0, .aload_n 0, 1), (1, .getfield 46, 3), (4, .iload_n 1, 1), (5, .invokestatic 106, 3), (8, .ifCond .ne 15, 3), (11, .aload_n 0, 1), (12, .getfield 12, 3), (15, .getfield 147, 3), (18, .iload_n 1, 1), (19, .invokestatic 106, 3), (22, .ireturn, 1), (23, .aload_n 0, 1), (24, .getfield 49, 3), (27, .aload_n 0, 1), (28, .getfield 32, 3), (31, .if_icmp .gt 17, 3), (34, .aload_n 0, 1), (35, .getfield 12, 3), (38, .getfield 150, 3), (41, .iload_n 1, 1), (42, .invokestatic 106, 3), (45, .goto 14, 3), (48, .aload_n 0, 1), (49, .getfield 12, 3), (52, .getfield 153, 3), (55, .iload_n 1, 1), (56, .invokestatic 106, 3), (59, .aload_n 0, 1), (60, .getfield 36, 3), (63, .isub, 1), (64, .ireturn, 1)], yX6_worthToOne, cX6_worthToOne, 2, (some .int), 1, 21)
def az_m_X6_worthToAll : az_M := (6, [(0, .iconst 0, 1), (1, .istore_n 1, 1), (2, .iconst 0, 1), (3, .istore_n 2, 1), (4, .iload_n 2, 1), (5, .aload_n 0, 1), (6, .getfield 12, 3), (9, .getfield 120, 3), (12, .if_icmp .ge 29, 3), (15, .iload_n 1, 1), (16, .aload_n 0, 1), (17, .getfield 12, 3), (20, .getfield 129, 3), (23, .iload_n 2, 1), (24, .invokestatic 106, 3), (27, .aload_n 0, 1), (28, .iload_n 2, 1), (29, .invokevirtual 156, 3), (32, .imul, 1), (33, .iadd, 1), (34, .istore_n 1, 1), (35, .iinc 2 1, 3), (38, .goto (-34), 3), (41, .iload_n 1, 1), (42, .ireturn, 1)], yX6_worthToAll, cX6_worthToAll, 3, (some .int), 2, 42)
def az_m_X6_drawMemory : az_M := (6, [(0, .iload_n 1, 1), (1, .istore_n 2, 1), (2, .aload_n 0, 1), (3, .getfield 12, 3), (6, .invokevirtual 84, 3), (9, .iconst 1, 1), (10, .iadd, 1), (11, .istore_n 3, 1), (12, .iconst 0, 1), (13, .istore 4, 2), (15, .iload 4, 2), (17, .aload_n 0, 1), (18, .getfield 28, 3), (21, .getfield 73, 3), (24, .if_icmp .ge 41, 3), (27, .iload_n 2, 1), (28, .ldc 159, 2), (30, .imul, 1), (31, .ldc 160, 2), (33, .iadd, 1), (34, .istore_n 2, 1), (35, .aload_n 0, 1), (36, .getfield 28, 3), (39, .getfield 70, 3), (42, .iload 4, 2), (44, .iload_n 2, 1), (45, .ldc 161, 2), (47, .iand, 1), (48, .sipush 256, 3), (51, .idiv, 1), (52, .iload_n 3, 1), (53, .invokestatic 138, 3), (56, .invokestatic 116, 3), (59, .iinc 4 1, 3), (62, .goto (-47), 3), (65, .iload_n 2, 1), (66, .ireturn, 1)], yX6_drawMemory, cX6_drawMemory, 5, (some .int), 2, 43)
def az_m_X7_letter : az_M := (7, [(0, .iload_n 1, 1), (1, .iconst 0, 1), (2, .sipush 255, 3), (5, .invokestatic 57, 3), (8, .istore_n 2, 1), (9, .iload_n 2, 1), (10, .ifCond .ne 18, 3), (13, .aload_n 0, 1), (14, .getfield 29, 3), (17, .getfield 61, 3), (20, .bipush 80, 2), (22, .if_icmp .lt 6, 3), (25, .bipush (-6), 2), (27, .istore_n 2, 1), (28, .iload_n 2, 1), (29, .ifCond .eq 11, 3), (32, .aload_n 0, 1), (33, .iload_n 2, 1), (34, .invokevirtual 64, 3), (37, .goto 11, 3), (40, .aload_n 0, 1), (41, .getfield 29, 3), (44, .iload_n 1, 1), (45, .invokevirtual 68, 3), (48, .ireturn, 1)], yX7_letter, cX7_letter, 3, (some .int), 2, 43)
def az_m_X7_town : az_M := (7, [(0, .aload_n 0, 1), (1, .getfield 16, 3), (4, .aload_n 0, 1), (5, .getfield 12, 3), (8, .invokevirtual 71, 3), (11, .aload_n 0, 1), (12, .getfield 29, 3), (15, .aload_n 0, 1), (16, .getfield 16, 3), (19, .invokevirtual 75, 3), (22, .istore_n 1, 1), (23, .aload_n 0, 1), (24, .getfield 29, 3), (27, .invokevirtual 79, 3), (30, .iload_n 1, 1), (31, .ifCond .le 14, 3), (34, .aload_n 0, 1), (35, .getfield 12, 3), (38, .aload_n 0, 1), (39, .getfield 16, 3), (42, .invokevirtual 71, 3), (45, .iload_n 1, 1), (46, .ireturn, 1)], yX7_town, cX7_town, 2, (some .int), 8, 184)
def az_m_X7_sort : az_M := (7, [(0, .aload_n 0, 1), (1, .getfield 12, 3), (4, .getfield 82, 3), (7, .astore_n 3, 1), (8, .aload_n 3, 1), (9, .iload_n 1, 1), (10, .invokevirtual 86, 3), (13, .ifCond .ne 9, 3), (16, .aload_n 0, 1), (17, .iconst (-1), 1), (18, .invokevirtual 64, 3), (21, .ireturn, 1), (22, .iload_n 2, 1), (23, .tableswitch 91 0 5 #[37, 46, 55, 64, 73, 82], 37), (60, .aload_n 3, 1), (61, .getfield 92, 3), (64, .iload_n 1, 1), (65, .invokestatic 95, 3), (68, .ireturn, 1), (69, .aload_n 3, 1), (70, .getfield 99, 3), (73, .iload_n 1, 1), (74, .invokestatic 95, 3), (77, .ireturn, 1), (78, .aload_n 3, 1), (79, .getfield 102, 3), (82, .iload_n 1, 1), (83, .invokestatic 95, 3), (86, .ireturn, 1), (87, .aload_n 3, 1), (88, .getfield 105, 3), (91, .iload_n 1, 1), (92, .invokestatic 95, 3), (95, .ireturn, 1), (96, .aload_n 3, 1), (97, .getfield 108, 3), (100, .iload_n 1, 1), (101, .invokestatic 95, 3), (104, .ireturn, 1), (105, .aload_n 3, 1), (106, .getfield 111, 3), (109, .iload_n 1, 1), (110, .invokestatic 95, 3), (113, .ireturn, 1), (114, .aload_n 0, 1), (115, .bipush (-2), 2), (117, .invokevirtual 64, 3), (120, .ireturn, 1)], yX7_sort, cX7_sort, 4, (some .int), 2, 43)
def az_m_X7_rule : az_M := (7, [(0, .aload_n 0, 1), (1, .getfield 12, 3), (4, .getfield 114, 3), (7, .astore_n 3, 1), (8, .aload_n 3, 1), (9, .iload_n 1, 1), (10, .invokevirtual 118, 3), (13, .ifCond .ne 9, 3), (16, .aload_n 0, 1), (17, .iconst (-1), 1), (18, .invokevirtual 64, 3), (21, .ireturn, 1), (22, .iload_n 2, 1), (23, .tableswitch 80 0 3 #[29, 38, 47, 56], 29), (52, .aload_n 3, 1), (53, .getfield 121, 3), (56, .iload_n 1, 1), (57, .invokestatic 95, 3), (60, .ireturn, 1), (61, .aload_n 3, 1), (62, .getfield 122, 3), (65, .iload_n 1, 1), (66, .invokestatic 95, 3), (69, .ireturn, 1), (70, .aload_n 3, 1), (71, .getfield 125, 3), (74, .iload_n 1, 1), (75, .invokestatic 95, 3), (78, .ireturn, 1), (79, .aload_n 0, 1), (80, .getfield 12, 3), (83, .aload_n 3, 1), (84, .getfield 121, 3), (87, .iload_n 1, 1), (88, .invokestatic 95, 3), (91, .aload_n 3, 1), (92, .getfield 122, 3), (95, .iload_n 1, 1), (96, .invokestatic 95, 3), (99, .invokevirtual 128, 3), (102, .ireturn, 1), (103, .aload_n 0, 1), (104, .bipush (-2), 2), (106, .invokevirtual 64, 3), (109, .ireturn, 1)], yX7_rule, cX7_rule, 4, (some .int), 3, 67)
def az_m_X7_remembered : az_M := (7, [(0, .iload_n 1, 1), (1, .iconst 1, 1), (2, .bipush 8, 2), (4, .invokestatic 57, 3), (7, .istore_n 2, 1), (8, .iload_n 2, 1), (9, .ifCond .eq 11, 3), (12, .aload_n 0, 1), (13, .iload_n 2, 1), (14, .invokevirtual 64, 3), (17, .goto 11, 3), (20, .aload_n 0, 1), (21, .getfield 12, 3), (24, .iload_n 1, 1), (25, .invokevirtual 132, 3), (28, .ireturn, 1)], yX7_remembered, cX7_remembered, 3, (some .int), 2, 43)
def az_m_X7_penny : az_M := (7, [(0, .iload_n 1, 1), (1, .iconst 0, 1), (2, .bipush 9, 2), (4, .invokestatic 57, 3), (7, .istore_n 2, 1), (8, .iload_n 2, 1), (9, .ifCond .eq 9, 3), (12, .aload_n 0, 1), (13, .iload_n 2, 1), (14, .invokevirtual 64, 3), (17, .ireturn, 1), (18, .aload_n 0, 1), (19, .getfield 12, 3), (22, .getfield 135, 3), (25, .istore_n 3, 1), (26, .aload_n 0, 1), (27, .getfield 12, 3), (30, .iload_n 1, 1), (31, .putfield 135, 3), (34, .iload_n 3, 1), (35, .ireturn, 1)], yX7_penny, cX7_penny, 4, (some .int), 2, 43)
def az_m_X7_week : az_M := (7, [(0, .aload_n 0, 1), (1, .getfield 12, 3), (4, .invokevirtual 138, 3), (7, .ireturn, 1)], yX7_week, cX7_week, 1, (some .int), 5, 109)
def az_m_X7_next : az_M := (7, [(0, .aload_n 0, 1), (1, .getfield 12, 3), (4, .invokevirtual 142, 3), (7, .aload_n 0, 1), (8, .getfield 12, 3), (11, .getfield 145, 3), (14, .ireturn, 1)], yX7_next, cX7_next, 1, (some .int), 5, 108)
def az_m_X7_goes : az_M := (7, [(0, .aload_n 0, 1), (1, .getfield 12, 3), (4, .getfield 82, 3), (7, .iload_n 1, 1), (8, .invokevirtual 86, 3), (11, .ifCond .ne 9, 3), (14, .aload_n 0, 1), (15, .iconst (-1), 1), (16, .invokevirtual 64, 3), (19, .ireturn, 1), (20, .aload_n 0, 1), (21, .getfield 12, 3), (24, .invokevirtual 142, 3), (27, .aload_n 0, 1), (28, .getfield 12, 3), (31, .getfield 148, 3), (34, .iload_n 1, 1), (35, .invokestatic 95, 3), (38, .ireturn, 1)], yX7_goes, cX7_goes, 2, (some .int), 5, 108)
def az_m_X7_worth : az_M := (7, [(0, .iload_n 1, 1), (1, .iconst (-1), 1), (2, .if_icmp .eq 23, 3), (5, .aload_n 0, 1), (6, .getfield 12, 3), (9, .getfield 82, 3), (12, .iload_n 1, 1), (13, .invokevirtual 86, 3), (16, .ifCond .ne 9, 3), (19, .aload_n 0, 1), (20, .iconst (-1), 1), (21, .invokevirtual 151, 3), (24, .ireturn, 1), (25, .aload_n 0, 1), (26, .getfield 12, 3), (29, .invokevirtual 142, 3), (32, .iload_n 1, 1), (33, .iconst (-1), 1), (34, .if_icmp .ne 13, 3), (37, .aload_n 0, 1), (38, .getfield 12, 3), (41, .invokevirtual 154, 3), (44, .goto 11, 3), (47, .aload_n 0, 1), (48, .getfield 12, 3), (51, .iload_n 1, 1), (52, .invokevirtual 157, 3), (55, .ireturn, 1)], yX7_worth, cX7_worth, 2, (some .int), 5, 108)
def az_m_X7_after : az_M := (7, [(0, .iload_n 1, 1), (1, .iconst 1, 1), (2, .bipush 60, 2), (4, .invokestatic 57, 3), (7, .istore_n 2, 1), (8, .iload_n 2, 1), (9, .ifCond .eq 9, 3), (12, .aload_n 0, 1), (13, .iload_n 2, 1), (14, .invokevirtual 64, 3), (17, .ireturn, 1), (18, .aload_n 0, 1), (19, .iload_n 1, 1), (20, .iconst 0, 1), (21, .invokevirtual 160, 3), (24, .aload_n 0, 1), (25, .getfield 40, 3), (28, .iload_n 1, 1), (29, .iconst 1, 1), (30, .isub, 1), (31, .invokestatic 95, 3), (34, .ireturn, 1)], yX7_after, cX7_after, 3, (some .int), 6, 132)
def az_m_X7_mean : az_M := (7, [(0, .iload_n 1, 1), (1, .iconst 1, 1), (2, .bipush 60, 2), (4, .invokestatic 57, 3), (7, .istore_n 2, 1), (8, .iload_n 2, 1), (9, .ifCond .eq 9, 3), (12, .aload_n 0, 1), (13, .iload_n 2, 1), (14, .invokevirtual 64, 3), (17, .ireturn, 1), (18, .aload_n 0, 1), (19, .iload_n 1, 1), (20, .iconst 0, 1), (21, .invokevirtual 160, 3), (24, .iconst 0, 1), (25, .istore_n 3, 1), (26, .iconst 0, 1), (27, .istore 4, 2), (29, .iload 4, 2), (31, .iload_n 1, 1), (32, .if_icmp .ge 21, 3), (35, .iload_n 3, 1), (36, .aload_n 0, 1), (37, .getfield 40, 3), (40, .iload 4, 2), (42, .invokestatic 95, 3), (45, .iadd, 1), (46, .istore_n 3, 1), (47, .iinc 4 1, 3), (50, .goto (-21), 3), (53, .bipush 100, 2), (55, .iload_n 3, 1), (56, .imul, 1), (57, .iload_n 1, 1), (58, .invokestatic 164, 3), (61, .ireturn, 1)], yX7_mean, cX7_mean, 5, (some .int), 6, 132)
def az_m_X7_swing : az_M := (7, [(0, .iload_n 1, 1), (1, .iconst 1, 1), (2, .bipush 60, 2), (4, .invokestatic 57, 3), (7, .istore_n 2, 1), (8, .iload_n 2, 1), (9, .ifCond .eq 9, 3), (12, .aload_n 0, 1), (13, .iload_n 2, 1), (14, .invokevirtual 64, 3), (17, .ireturn, 1), (18, .aload_n 0, 1), (19, .iload_n 1, 1), (20, .iconst 0, 1), (21, .invokevirtual 160, 3), (24, .aload_n 0, 1), (25, .iload_n 1, 1), (26, .invokevirtual 167, 3), (29, .ireturn, 1)], yX7_swing, cX7_swing, 3, (some .int), 6, 132)
def az_m_X7_good : az_M := (7, [(0, .iload_n 1, 1), (1, .iconst 1, 1), (2, .bipush 60, 2), (4, .invokestatic 57, 3), (7, .istore_n 2, 1), (8, .iload_n 2, 1), (9, .ifCond .eq 9, 3), (12, .aload_n 0, 1), (13, .iload_n 2, 1), (14, .invokevirtual 64, 3), (17, .ireturn, 1), (18, .aload_n 0, 1), (19, .iload_n 1, 1), (20, .iconst 0, 1), (21, .invokevirtual 160, 3), (24, .iconst 0, 1), (25, .istore_n 3, 1), (26, .iconst 0, 1), (27, .istore 4, 2), (29, .iload 4, 2), (31, .iload_n 1, 1), (32, .if_icmp .ge 31, 3), (35, .aload_n 0, 1), (36, .getfield 40, 3), (39, .iload 4, 2), (41, .invokestatic 95, 3), (44, .aload_n 0, 1), (45, .getfield 12, 3), (48, .getfield 170, 3), (51, .if_icmp .gt 6, 3), (54, .iinc 3 1, 3), (57, .iinc 4 1, 3), (60, .goto (-31), 3), (63, .iload_n 3, 1), (64, .ireturn, 1)], yX7_good, cX7_good, 5, (some .int), 6, 132)
def az_m_X7_again : az_M := (7, [(0, .aload_n 0, 1), (1, .bipush 80, 2), (3, .iconst 0, 1), (4, .invokevirtual 160, 3), (7, .iconst 1, 1), (8, .istore_n 1, 1), (9, .iload_n 1, 1), (10, .bipush 40, 2), (12, .if_icmp .gt 19, 3), (15, .aload_n 0, 1), (16, .iload_n 1, 1), (17, .invokevirtual 173, 3), (20, .ifCond .eq 5, 3), (23, .iload_n 1, 1), (24, .ireturn, 1), (25, .iinc 1 1, 3), (28, .goto (-19), 3), (31, .bipush (-9), 2), (33, .ireturn, 1)], yX7_again, cX7_again, 2, (some .int), 6, 132)
def az_m_X7_gains : az_M := (7, [(0, .aload_n 0, 1), (1, .getfield 12, 3), (4, .getfield 82, 3), (7, .iload_n 1, 1), (8, .invokevirtual 86, 3), (11, .ifCond .ne 9, 3), (14, .aload_n 0, 1), (15, .iconst (-1), 1), (16, .invokevirtual 151, 3), (19, .ireturn, 1), (20, .iload_n 2, 1), (21, .iconst 1, 1), (22, .bipush 60, 2), (24, .invokestatic 57, 3), (27, .istore_n 3, 1), (28, .iload_n 3, 1), (29, .ifCond .eq 9, 3), (32, .aload_n 0, 1), (33, .iload_n 3, 1), (34, .invokevirtual 151, 3), (37, .ireturn, 1), (38, .aload_n 0, 1), (39, .getfield 16, 3), (42, .aload_n 0, 1), (43, .getfield 12, 3), (46, .invokevirtual 71, 3), (49, .aload_n 0, 1), (50, .iload_n 1, 1), (51, .iload_n 2, 1), (52, .invokevirtual 176, 3), (55, .ireturn, 1)], yX7_gains, cX7_gains, 4, (some .int), 6, 133)
def az_m_X7_rests : az_M := (7, [(0, .aload_n 0, 1), (1, .getfield 36, 3), (4, .aload_n 0, 1), (5, .getfield 12, 3), (8, .getfield 82, 3), (11, .aload_n 0, 1), (12, .getfield 12, 3), (15, .getfield 170, 3), (18, .aload_n 0, 1), (19, .getfield 12, 3), (22, .getfield 135, 3), (25, .invokevirtual 179, 3), (28, .ireturn, 1)], yX7_rests, cX7_rests, 1, (some .int), 4, 101)
def az_m_X7_rest : az_M := (7, [(0, .iload_n 1, 1), (1, .iconst (-1), 1), (2, .if_icmp .eq 23, 3), (5, .aload_n 0, 1), (6, .getfield 12, 3), (9, .getfield 82, 3), (12, .iload_n 1, 1), (13, .invokevirtual 86, 3), (16, .ifCond .ne 9, 3), (19, .aload_n 0, 1), (20, .iconst (-1), 1), (21, .invokevirtual 64, 3), (24, .ireturn, 1), (25, .aload_n 0, 1), (26, .getfield 36, 3), (29, .aload_n 0, 1), (30, .getfield 12, 3), (33, .getfield 82, 3), (36, .aload_n 0, 1), (37, .getfield 12, 3), (40, .getfield 170, 3), (43, .aload_n 0, 1), (44, .getfield 12, 3), (47, .getfield 135, 3), (50, .invokevirtual 183, 3), (53, .ifCond .ne 6, 3), (56, .bipush (-9), 2), (58, .ireturn, 1), (59, .iload_n 1, 1), (60, .iconst (-1), 1), (61, .if_icmp .ne 13, 3), (64, .aload_n 0, 1), (65, .getfield 36, 3), (68, .invokevirtual 187, 3), (71, .goto 14, 3), (74, .aload_n 0, 1), (75, .getfield 36, 3), (78, .getfield 190, 3), (81, .iload_n 1, 1), (82, .invokestatic 95, 3), (85, .ireturn, 1)], yX7_rest, cX7_rest, 2, (some .int), 6, 140)
def az_m_X7_best : az_M := (7, [(0, .iload_n 1, 1), (1, .ifCond .ne 32, 3), (4, .aload_n 0, 1), (5, .getfield 36, 3), (8, .aload_n 0, 1), (9, .getfield 12, 3), (12, .getfield 82, 3), (15, .aload_n 0, 1), (16, .getfield 12, 3), (19, .getfield 170, 3), (22, .aload_n 0, 1), (23, .getfield 12, 3), (26, .getfield 135, 3), (29, .invokevirtual 193, 3), (32, .ireturn, 1), (33, .iload_n 1, 1), (34, .iconst 1, 1), (35, .if_icmp .ne 39, 3), (38, .aload_n 0, 1), (39, .getfield 36, 3), (42, .aload_n 0, 1), (43, .getfield 12, 3), (46, .getfield 82, 3), (49, .aload_n 0, 1), (50, .getfield 12, 3), (53, .getfield 170, 3), (56, .aload_n 0, 1), (57, .getfield 12, 3), (60, .getfield 135, 3), (63, .invokevirtual 196, 3), (66, .aload_n 0, 1), (67, .getfield 36, 3), (70, .invokevirtual 187, 3), (73, .ireturn, 1), (74, .aload_n 0, 1), (75, .bipush (-2), 2), (77, .invokevirtual 151, 3), (80, .ireturn, 1)], yX7_best, cX7_best, 2, (some .int), 6, 141)
def az_m_X7_off : az_M := (7, [(0, .aload_n 0, 1), (1, .getfield 36, 3), (4, .aload_n 0, 1), (5, .getfield 12, 3), (8, .getfield 82, 3), (11, .aload_n 0, 1), (12, .getfield 12, 3), (15, .getfield 170, 3), (18, .aload_n 0, 1), (19, .getfield 12, 3), (22, .getfield 135, 3), (25, .invokevirtual 200, 3), (28, .istore_n 1, 1), (29, .iload_n 1, 1), (30, .ldc 203, 2), (32, .if_icmp .ne 6, 3), (35, .bipush (-9), 2), (37, .ireturn, 1), (38, .aload_n 0, 1), (39, .getfield 36, 3), (42, .aload_n 0, 1), (43, .getfield 12, 3), (46, .getfield 82, 3), (49, .aload_n 0, 1), (50, .getfield 12, 3), (53, .getfield 170, 3), (56, .aload_n 0, 1), (57, .getfield 12, 3), (60, .getfield 135, 3), (63, .invokevirtual 193, 3), (66, .iload_n 1, 1), (67, .isub, 1), (68, .ireturn, 1)], yX7_off, cX7_off, 2, (some .int), 4, 101)
def az_m_X7_pennies : az_M := (7, [(0, .bipush (-9), 2), (2, .istore_n 1, 1), (3, .ldc 203, 2), (5, .istore_n 2, 1), (6, .iconst 0, 1), (7, .istore_n 3, 1), (8, .iload_n 3, 1), (9, .bipush 9, 2), (11, .if_icmp .gt 44, 3), (14, .aload_n 0, 1), (15, .getfield 36, 3), (18, .aload_n 0, 1), (19, .getfield 12, 3), (22, .getfield 82, 3), (25, .aload_n 0, 1), (26, .getfield 12, 3), (29, .getfield 170, 3), (32, .iload_n 3, 1), (33, .invokevirtual 200, 3), (36, .istore 4, 2), (38, .iload 4, 2), (40, .iload_n 2, 1), (41, .if_icmp .le 8, 3), (44, .iload 4, 2), (46, .istore_n 2, 1), (47, .iload_n 3, 1), (48, .istore_n 1, 1), (49, .iinc 3 1, 3), (52, .goto (-44), 3), (55, .iload_n 1, 1), (56, .ireturn, 1)], yX7_pennies, cX7_pennies, 5, (some .int), 4, 101)
def az_m_X7_chairs : az_M := (7, [(0, .bipush (-9), 2), (2, .istore_n 1, 1), (3, .iconst (-1), 1), (4, .istore_n 2, 1), (5, .iconst 0, 1), (6, .istore_n 3, 1), (7, .iload_n 3, 1), (8, .bipush 60, 2), (10, .if_icmp .gt 55, 3), (13, .aload_n 0, 1), (14, .getfield 36, 3), (17, .aload_n 0, 1), (18, .getfield 12, 3), (21, .getfield 82, 3), (24, .iload_n 3, 1), (25, .aload_n 0, 1), (26, .getfield 12, 3), (29, .getfield 135, 3), (32, .invokevirtual 183, 3), (35, .ifCond .eq 24, 3), (38, .aload_n 0, 1), (39, .getfield 36, 3), (42, .invokevirtual 187, 3), (45, .iload_n 2, 1), (46, .if_icmp .le 13, 3), (49, .aload_n 0, 1), (50, .getfield 36, 3), (53, .invokevirtual 187, 3), (56, .istore_n 2, 1), (57, .iload_n 3, 1), (58, .istore_n 1, 1), (59, .iinc 3 1, 3), (62, .goto (-55), 3), (65, .iload_n 1, 1), (66, .ireturn, 1)], yX7_chairs, cX7_chairs, 4, (some .int), 6, 140)
def az_m_X7_sees : az_M := (7, [(0, .iload_n 1, 1), (1, .iconst 1, 1), (2, .if_icmp .lt 16, 3), (5, .iload_n 2, 1), (6, .ifCond .lt 12, 3), (9, .iload_n 3, 1), (10, .ifCond .lt 8, 3), (13, .iload 4, 2), (15, .ifCond .ge 10, 3), (18, .aload_n 0, 1), (19, .bipush (-4), 2), (21, .invokevirtual 151, 3), (24, .ireturn, 1), (25, .iload_n 1, 1), (26, .bipush 60, 2), (28, .if_icmp .gt 22, 3), (31, .iload_n 2, 1), (32, .bipush 9, 2), (34, .if_icmp .gt 16, 3), (37, .iload_n 3, 1), (38, .bipush 9, 2), (40, .if_icmp .gt 10, 3), (43, .iload 4, 2), (45, .bipush 9, 2), (47, .if_icmp .le 7, 3), (50, .iconst 1, 1), (51, .goto 4, 3), (54, .iconst 0, 1), (55, .istore 5, 2), (57, .iload 5, 2), (59, .ifCond .ne 17, 3), (62, .aload_n 0, 1), (63, .getfield 12, 3), (66, .getfield 82, 3), (69, .getfield 204, 3), (72, .iconst 4, 1), (73, .if_icmp .lt 10, 3), (76, .aload_n 0, 1), (77, .bipush (-6), 2), (79, .invokevirtual 151, 3), (82, .ireturn, 1), (83, .aload_n 0, 1), (84, .getfield 16, 3), (87, .aload_n 0, 1), (88, .getfield 12, 3), (91, .invokevirtual 71, 3), (94, .aload_n 0, 1), (95, .getfield 16, 3), (98, .getfield 82, 3), (101, .getfield 204, 3), (104, .istore 6, 2), (106, .aload_n 0, 1), (107, .getfield 16, 3), (110, .getfield 82, 3), (113, .iconst 1, 1), (114, .iconst 5, 1), (115, .iconst 0, 1), (116, .iload_n 2, 1), (117, .iload_n 3, 1), (118, .iload 4, 2), (120, .invokevirtual 205, 3), (123, .pop, 1), (124, .aload_n 0, 1), (125, .iload 6, 2), (127, .iload_n 1, 1), (128, .invokevirtual 176, 3), (131, .ireturn, 1)], yX7_sees, cX7_sees, 7, (some .int), 6, 133)
def az_m_X7_which : az_M := (7, [(0, .iload_n 1, 1), (1, .iconst 1, 1), (2, .bipush 60, 2), (4, .invokestatic 57, 3), (7, .istore_n 2, 1), (8, .iload_n 2, 1), (9, .ifCond .eq 9, 3), (12, .aload_n 0, 1), (13, .iload_n 2, 1), (14, .invokevirtual 64, 3), (17, .ireturn, 1), (18, .aload_n 0, 1), (19, .iload_n 1, 1), (20, .invokevirtual 208, 3), (23, .iconst 0, 1), (24, .istore_n 3, 1), (25, .iconst 1, 1), (26, .istore 4, 2), (28, .iload 4, 2), (30, .aload_n 0, 1), (31, .getfield 44, 3), (34, .arraylength, 1), (35, .if_icmp .ge 32, 3), (38, .aload_n 0, 1), (39, .getfield 44, 3), (42, .iload 4, 2), (44, .invokestatic 95, 3), (47, .aload_n 0, 1), (48, .getfield 44, 3), (51, .iload_n 3, 1), (52, .invokestatic 95, 3), (55, .if_icmp .le 6, 3), (58, .iload 4, 2), (60, .istore_n 3, 1), (61, .iinc 4 1, 3), (64, .goto (-36), 3), (67, .bipush 10, 2), (69, .iload_n 3, 1), (70, .bipush 6, 2), (72, .idiv, 1), (73, .imul, 1), (74, .iload_n 3, 1), (75, .bipush 6, 2), (77, .irem, 1), (78, .iadd, 1), (79, .iconst 1, 1), (80, .iadd, 1), (81, .ireturn, 1)], yX7_which, cX7_which, 5, (some .int), 6, 132)
def az_m_X7_longer : az_M := (7, [(0, .iload_n 1, 1), (1, .iconst 1, 1), (2, .bipush 60, 2), (4, .invokestatic 57, 3), (7, .istore_n 2, 1), (8, .iload_n 2, 1), (9, .ifCond .eq 9, 3), (12, .aload_n 0, 1), (13, .iload_n 2, 1), (14, .invokevirtual 64, 3), (17, .ireturn, 1), (18, .aload_n 0, 1), (19, .iload_n 1, 1), (20, .iconst 1, 1), (21, .invokevirtual 160, 3), (24, .aload_n 0, 1), (25, .iload_n 1, 1), (26, .invokevirtual 167, 3), (29, .ireturn, 1)], yX7_longer, cX7_longer, 3, (some .int), 6, 132)
def az_m_X7_seeds : az_M := (7, [(0, .iload_n 1, 1), (1, .iconst 1, 1), (2, .bipush 20, 2), (4, .invokestatic 57, 3), (7, .istore_n 3, 1), (8, .iload_n 3, 1), (9, .ifCond .eq 9, 3), (12, .aload_n 0, 1), (13, .iload_n 3, 1), (14, .invokevirtual 64, 3), (17, .ireturn, 1), (18, .aload_n 0, 1), (19, .getfield 16, 3), (22, .aload_n 0, 1), (23, .getfield 12, 3), (26, .invokevirtual 71, 3), (29, .iload_n 2, 1), (30, .istore 4, 2), (32, .iconst 0, 1), (33, .istore 5, 2), (35, .iconst 0, 1), (36, .istore 6, 2), (38, .iload 6, 2), (40, .iload_n 1, 1), (41, .if_icmp .ge 39, 3), (44, .aload_n 0, 1), (45, .getfield 16, 3), (48, .iload 4, 2), (50, .invokevirtual 212, 3), (53, .istore 4, 2), (55, .aload_n 0, 1), (56, .getfield 16, 3), (59, .invokevirtual 142, 3), (62, .iload 5, 2), (64, .aload_n 0, 1), (65, .getfield 16, 3), (68, .getfield 145, 3), (71, .iadd, 1), (72, .istore 5, 2), (74, .iinc 6 1, 3), (77, .goto (-39), 3), (80, .iload 5, 2), (82, .ireturn, 1)], yX7_seeds, cX7_seeds, 7, (some .int), 5, 108)
def az_m_X7_row : az_M := (7, [(0, .iload_n 1, 1), (1, .iconst 0, 1), (2, .bipush 99, 2), (4, .invokestatic 57, 3), (7, .istore_n 2, 1), (8, .iload_n 2, 1), (9, .ifCond .ne 15, 3), (12, .aload_n 0, 1), (13, .getfield 50, 3), (16, .bipush 12, 2), (18, .if_icmp .lt 6, 3), (21, .bipush (-6), 2), (23, .istore_n 2, 1), (24, .iload_n 2, 1), (25, .ifCond .eq 9, 3), (28, .aload_n 0, 1), (29, .iload_n 2, 1), (30, .invokevirtual 64, 3), (33, .ireturn, 1), (34, .aload_n 0, 1), (35, .getfield 47, 3), (38, .aload_n 0, 1), (39, .getfield 50, 3), (42, .iload_n 1, 1), (43, .invokestatic 215, 3), (46, .aload_n 0, 1), (47, .dup, 1), (48, .getfield 50, 3), (51, .iconst 1, 1), (52, .iadd, 1), (53, .putfield 50, 3), (56, .aload_n 0, 1), (57, .getfield 50, 3), (60, .ireturn, 1)], yX7_row, cX7_row, 3, (some .int), 2, 43)
def az_m_X7_judge : az_M := (7, [(0, .aload_n 0, 1), (1, .aload_n 0, 1), (2, .getfield 50, 3), (5, .iconst 0, 1), (6, .invokevirtual 160, 3), (9, .bipush (-9), 2), (11, .istore_n 1, 1), (12, .aload_n 0, 1), (13, .getfield 50, 3), (16, .iconst 1, 1), (17, .isub, 1), (18, .istore_n 2, 1), (19, .iload_n 2, 1), (20, .ifCond .lt 30, 3), (23, .aload_n 0, 1), (24, .getfield 47, 3), (27, .iload_n 2, 1), (28, .invokestatic 95, 3), (31, .aload_n 0, 1), (32, .getfield 40, 3), (35, .iload_n 2, 1), (36, .invokestatic 95, 3), (39, .if_icmp .eq 5, 3), (42, .iload_n 2, 1), (43, .istore_n 1, 1), (44, .iinc 2 (-1), 3), (47, .goto (-28), 3), (50, .aload_n 0, 1), (51, .iconst 0, 1), (52, .putfield 50, 3), (55, .iload_n 1, 1), (56, .ireturn, 1)], yX7_judge, cX7_judge, 3, (some .int), 6, 132)
def az_m_X7_image : az_M := (7, [(0, .aload_n 0, 1), (1, .getfield 19, 3), (4, .aload_n 0, 1), (5, .getfield 12, 3), (8, .invokevirtual 71, 3), (11, .aload_n 0, 1), (12, .iconst 1, 1), (13, .putfield 22, 3), (16, .aload_n 0, 1), (17, .getfield 12, 3), (20, .getfield 219, 3), (23, .ireturn, 1)], yX7_image, cX7_image, 1, (some .int), 3, 64)
def az_m_X7_on : az_M := (7, [(0, .aload_n 0, 1), (1, .getfield 22, 3), (4, .ifCond .ne 10, 3), (7, .aload_n 0, 1), (8, .bipush (-3), 2), (10, .invokevirtual 64, 3), (13, .ireturn, 1), (14, .aload_n 0, 1), (15, .getfield 12, 3), (18, .aload_n 0, 1), (19, .getfield 19, 3), (22, .invokevirtual 71, 3), (25, .aload_n 0, 1), (26, .getfield 12, 3), (29, .getfield 219, 3), (32, .ireturn, 1)], yX7_on, cX7_on, 1, (some .int), 3, 64)
def az_m_X7_count : az_M := (7, [(0, .iload_n 1, 1), (1, .tableswitch 132 0 8 #[51, 62, 73, 84, 92, 100, 111, 119, 124], 51), (52, .aload_n 0, 1), (53, .getfield 12, 3), (56, .getfield 82, 3), (59, .getfield 204, 3), (62, .ireturn, 1), (63, .aload_n 0, 1), (64, .getfield 12, 3), (67, .getfield 114, 3), (70, .getfield 222, 3), (73, .ireturn, 1), (74, .aload_n 0, 1), (75, .getfield 12, 3), (78, .getfield 82, 3), (81, .invokevirtual 223, 3), (84, .ireturn, 1), (85, .aload_n 0, 1), (86, .getfield 12, 3), (89, .getfield 170, 3), (92, .ireturn, 1), (93, .aload_n 0, 1), (94, .getfield 12, 3), (97, .getfield 219, 3), (100, .ireturn, 1), (101, .aload_n 0, 1), (102, .getfield 12, 3), (105, .getfield 226, 3), (108, .getfield 230, 3), (111, .ireturn, 1), (112, .aload_n 0, 1), (113, .getfield 12, 3), (116, .getfield 135, 3), (119, .ireturn, 1), (120, .aload_n 0, 1), (121, .getfield 50, 3), (124, .ireturn, 1), (125, .aload_n 0, 1), (126, .getfield 29, 3), (129, .getfield 61, 3), (132, .ireturn, 1), (133, .iload_n 1, 1), (134, .bipush 11, 2), (136, .if_icmp .lt 23, 3), (139, .iload_n 1, 1), (140, .bipush 16, 2), (142, .if_icmp .gt 17, 3), (145, .aload_n 0, 1), (146, .getfield 54, 3), (149, .iload_n 1, 1), (150, .bipush 10, 2), (152, .isub, 1), (153, .invokestatic 95, 3), (156, .goto 5, 3), (159, .bipush (-9), 2), (161, .ireturn, 1)], yX7_count, cX7_count, 2, (some .int), 2, 43)
def az_m_X7_refuse : az_M := (7, [(0, .aload_n 0, 1), (1, .getfield 54, 3), (4, .iload_n 1, 1), (5, .ineg, 1), (6, .aload_n 0, 1), (7, .getfield 54, 3), (10, .iload_n 1, 1), (11, .ineg, 1), (12, .invokestatic 95, 3), (15, .iconst 1, 1), (16, .iadd, 1), (17, .invokestatic 215, 3), (20, .iload_n 1, 1), (21, .ireturn, 1)], yX7_refuse, cX7_refuse, 2, (some .int), 1, 22)
def az_m_X7_refuseWorth : az_M := (7, [(0, .ldc 233, 2), (2, .aload_n 0, 1), (3, .iload_n 1, 1), (4, .invokevirtual 64, 3), (7, .isub, 1), (8, .ireturn, 1)], yX7_refuseWorth, cX7_refuseWorth, 2, (some .int), 2, 43)
def az_m_X7_lookAhead : az_M := (7, [(0, .aload_n 0, 1), (1, .getfield 16, 3), (4, .aload_n 0, 1), (5, .getfield 12, 3), (8, .invokevirtual 71, 3), (11, .aload_n 0, 1), (12, .getfield 16, 3), (15, .getfield 114, 3), (18, .iload_n 2, 1), (19, .invokevirtual 234, 3), (22, .iconst 0, 1), (23, .istore_n 3, 1), (24, .iload_n 3, 1), (25, .iload_n 1, 1), (26, .if_icmp .ge 24, 3), (29, .aload_n 0, 1), (30, .getfield 40, 3), (33, .iload_n 3, 1), (34, .aload_n 0, 1), (35, .getfield 16, 3), (38, .invokevirtual 138, 3), (41, .invokestatic 215, 3), (44, .iinc 3 1, 3), (47, .goto (-23), 3), (50, .return_, 1)], yX7_lookAhead, cX7_lookAhead, 4, none, 5, 109)
def az_m_X7_swingOf : az_M := (7, [(0, .aload_n 0, 1), (1, .getfield 40, 3), (4, .iconst 0, 1), (5, .invokestatic 95, 3), (8, .istore_n 2, 1), (9, .iload_n 2, 1), (10, .istore_n 3, 1), (11, .iconst 1, 1), (12, .istore 4, 2), (14, .iload 4, 2), (16, .iload_n 1, 1), (17, .if_icmp .ge 37, 3), (20, .iload_n 2, 1), (21, .aload_n 0, 1), (22, .getfield 40, 3), (25, .iload 4, 2), (27, .invokestatic 95, 3), (30, .invokestatic 237, 3), (33, .istore_n 2, 1), (34, .iload_n 3, 1), (35, .aload_n 0, 1), (36, .getfield 40, 3), (39, .iload 4, 2), (41, .invokestatic 95, 3), (44, .invokestatic 242, 3), (47, .istore_n 3, 1), (48, .iinc 4 1, 3), (51, .goto (-37), 3), (54, .iload_n 3, 1), (55, .iload_n 2, 1), (56, .isub, 1), (57, .ireturn, 1)], yX7_swingOf, cX7_swingOf, 5, (some .int), 1, 21)
def az_m_X7_comesAgainAfter : az_M := (7, [(0, .iconst 0, 1), (1, .istore_n 2, 1), (2, .iload_n 2, 1), (3, .bipush 40, 2), (5, .if_icmp .ge 32, 3), (8, .aload_n 0, 1), (9, .getfield 40, 3), (12, .iload_n 2, 1), (13, .invokestatic 95, 3), (16, .aload_n 0, 1), (17, .getfield 40, 3), (20, .iload_n 2, 1), (21, .iload_n 1, 1), (22, .iadd, 1), (23, .invokestatic 95, 3), (26, .if_icmp .eq 5, 3), (29, .iconst 0, 1), (30, .ireturn, 1), (31, .iinc 2 1, 3), (34, .goto (-32), 3), (37, .iconst 1, 1), (38, .ireturn, 1)], yX7_comesAgainAfter, cX7_comesAgainAfter, 3, (some .boolean), 1, 21)
def az_m_X7_gainsInMind : az_M := (7, [(0, .iconst 0, 1), (1, .istore_n 3, 1), (2, .iconst 0, 1), (3, .istore 4, 2), (5, .iload 4, 2), (7, .iload_n 2, 1), (8, .if_icmp .ge 28, 3), (11, .aload_n 0, 1), (12, .getfield 16, 3), (15, .invokevirtual 138, 3), (18, .pop, 1), (19, .iload_n 3, 1), (20, .aload_n 0, 1), (21, .getfield 16, 3), (24, .iload_n 1, 1), (25, .invokevirtual 157, 3), (28, .iadd, 1), (29, .istore_n 3, 1), (30, .iinc 4 1, 3), (33, .goto (-28), 3), (36, .iload_n 3, 1), (37, .ireturn, 1)], yX7_gainsInMind, cX7_gainsInMind, 5, (some .int), 5, 109)
def az_m_X7_tallyRight : az_M := (7, [(0, .iconst 0, 1), (1, .istore_n 2, 1), (2, .iload_n 2, 1), (3, .aload_n 0, 1), (4, .getfield 44, 3), (7, .arraylength, 1), (8, .if_icmp .ge 18, 3), (11, .aload_n 0, 1), (12, .getfield 44, 3), (15, .iload_n 2, 1), (16, .iconst 0, 1), (17, .invokestatic 215, 3), (20, .iinc 2 1, 3), (23, .goto (-21), 3), (26, .aload_n 0, 1), (27, .getfield 16, 3), (30, .aload_n 0, 1), (31, .getfield 12, 3), (34, .invokevirtual 71, 3), (37, .iconst 0, 1), (38, .istore_n 2, 1), (39, .iload_n 2, 1), (40, .iload_n 1, 1), (41, .if_icmp .ge 86, 3), (44, .aload_n 0, 1), (45, .getfield 16, 3), (48, .invokevirtual 142, 3), (51, .iconst 0, 1), (52, .istore_n 3, 1), (53, .iload_n 3, 1), (54, .aload_n 0, 1), (55, .getfield 44, 3), (58, .arraylength, 1), (59, .if_icmp .ge 54, 3), (62, .aload_n 0, 1), (63, .getfield 16, 3), (66, .aload_n 0, 1), (67, .getfield 16, 3), (70, .iload_n 3, 1), (71, .bipush 6, 2), (73, .idiv, 1), (74, .iload_n 3, 1), (75, .bipush 6, 2), (77, .irem, 1), (78, .iconst 1, 1), (79, .iadd, 1), (80, .invokevirtual 128, 3), (83, .invokevirtual 245, 3), (86, .ifCond .eq 21, 3), (89, .aload_n 0, 1), (90, .getfield 44, 3), (93, .iload_n 3, 1), (94, .aload_n 0, 1), (95, .getfield 44, 3), (98, .iload_n 3, 1), (99, .invokestatic 95, 3), (102, .iconst 1, 1), (103, .iadd, 1), (104, .invokestatic 215, 3), (107, .iinc 3 1, 3), (110, .goto (-57), 3), (113, .aload_n 0, 1), (114, .getfield 16, 3), (117, .invokevirtual 138, 3), (120, .pop, 1), (121, .iinc 2 1, 3), (124, .goto (-85), 3), (127, .return_, 1)], yX7_tallyRight, cX7_tallyRight, 4, none, 5, 109)
def az_m_X7_outside : az_M := (7, [(0, .iload_n 0, 1), (1, .iload_n 1, 1), (2, .if_icmp .ge 6, 3), (5, .bipush (-4), 2), (7, .ireturn, 1), (8, .iload_n 0, 1), (9, .iload_n 2, 1), (10, .if_icmp .le 8, 3), (13, .bipush (-6), 2), (15, .goto 4, 3), (18, .iconst 0, 1), (19, .ireturn, 1)], yX7_outside, cX7_outside, 3, (some .int), 0, 0)
def az_m_X7_at : az_M := (7, [(0, .iload_n 1, 1), (1, .ifCond .lt 15, 3), (4, .iload_n 1, 1), (5, .aload_n 0, 1), (6, .arraylength, 1), (7, .if_icmp .ge 9, 3), (10, .aload_n 0, 1), (11, .iload_n 1, 1), (12, .iaload, 1), (13, .goto 4, 3), (16, .iconst 0, 1), (17, .ireturn, 1)], yX7_at, cX7_at, 2, (some .int), 0, 0)
def az_m_X7_put : az_M := (7, [(0, .iload_n 1, 1), (1, .ifCond .lt 13, 3), (4, .iload_n 1, 1), (5, .aload_n 0, 1), (6, .arraylength, 1), (7, .if_icmp .ge 7, 3), (10, .aload_n 0, 1), (11, .iload_n 1, 1), (12, .iload_n 2, 1), (13, .iastore, 1), (14, .return_, 1)], yX7_put, cX7_put, 3, none, 0, 0)
def az_m_X7_copyRow : az_M := (7, [(0, .iconst 0, 1), (1, .istore_n 2, 1), (2, .iload_n 2, 1), (3, .aload_n 0, 1), (4, .arraylength, 1), (5, .if_icmp .ge 21, 3), (8, .iload_n 2, 1), (9, .aload_n 1, 1), (10, .arraylength, 1), (11, .if_icmp .ge 15, 3), (14, .aload_n 1, 1), (15, .iload_n 2, 1), (16, .aload_n 0, 1), (17, .iload_n 2, 1), (18, .iaload, 1), (19, .iastore, 1), (20, .iinc 2 1, 3), (23, .goto (-21), 3), (26, .return_, 1)], yX7_copyRow, cX7_copyRow, 3, none, 0, 0)
def az_m_X7_quotient : az_M := (7, [(0, .iload_n 1, 1), (1, .ifCond .le 9, 3), (4, .iload_n 0, 1), (5, .iload_n 1, 1), (6, .idiv, 1), (7, .goto 4, 3), (10, .iconst 0, 1), (11, .ireturn, 1)], yX7_quotient, cX7_quotient, 2, (some .int), 0, 0)
def az_m_X7_remainder : az_M := (7, [(0, .iload_n 1, 1), (1, .ifCond .le 9, 3), (4, .iload_n 0, 1), (5, .iload_n 1, 1), (6, .irem, 1), (7, .goto 4, 3), (10, .iconst 0, 1), (11, .ireturn, 1)], yX7_remainder, cX7_remainder, 2, (some .int), 0, 0)
def az_m_X8_no : az_M := (8, [(0, .aload_n 0, 1), (1, .getfield 1, 3), (4, .iload_n 1, 1), (5, .ineg, 1), (6, .dup2, 1), (7, .iaload, 1), (8, .iconst 1, 1), (9, .iadd, 1), (10, .iastore, 1), (11, .iload_n 1, 1), (12, .ireturn, 1)], yX8_no, cX8_no, 2, (some .int), 0, 0)
def az_m_X8_move : az_M := (8, [(0, .iconst 0, 1), (1, .istore_n 2, 1), (2, .iload_n 2, 1), (3, .bipush 70, 2), (5, .if_icmp .ge 15, 3), (8, .aload_n 1, 1), (9, .iload_n 2, 1), (10, .aload_n 0, 1), (11, .iload_n 2, 1), (12, .iaload, 1), (13, .iastore, 1), (14, .iinc 2 1, 3), (17, .goto (-15), 3), (20, .return_, 1)], yX8_move, cX8_move, 3, none, 0, 0)
def az_m_X8_image : az_M := (8, [(0, .aload_n 0, 1), (1, .iconst 1, 1), (2, .putfield 7, 3), (5, .aload_n 0, 1), (6, .getfield 11, 3), (9, .aload_n 0, 1), (10, .getfield 14, 3), (13, .invokestatic 17, 3), (16, .aload_n 0, 1), (17, .getfield 11, 3), (20, .iconst 3, 1), (21, .iaload, 1), (22, .ireturn, 1)], yX8_image, cX8_image, 1, (some .int), 1, 22)
def az_m_X8_on : az_M := (8, [(0, .aload_n 0, 1), (1, .getfield 7, 3), (4, .ifCond .ne 10, 3), (7, .aload_n 0, 1), (8, .bipush (-3), 2), (10, .invokevirtual 21, 3), (13, .ireturn, 1), (14, .aload_n 0, 1), (15, .getfield 14, 3), (18, .aload_n 0, 1), (19, .getfield 11, 3), (22, .invokestatic 17, 3), (25, .aload_n 0, 1), (26, .getfield 11, 3), (29, .iconst 3, 1), (30, .iaload, 1), (31, .ireturn, 1)], yX8_on, cX8_on, 1, (some .int), 1, 22)
def az_m_X8_of : az_M := (8, [(0, .aload_n 0, 1), (1, .getfield 11, 3), (4, .bipush 10, 2), (6, .bipush 6, 2), (8, .iload_n 1, 1), (9, .imul, 1), (10, .iadd, 1), (11, .iload_n 2, 1), (12, .iadd, 1), (13, .iaload, 1), (14, .ireturn, 1)], yX8_of, cX8_of, 3, (some .int), 0, 0)
def az_m_X8_people : az_M := (8, [(0, .iconst 0, 1), (1, .istore_n 1, 1), (2, .iconst 0, 1), (3, .istore_n 2, 1), (4, .iload_n 2, 1), (5, .aload_n 0, 1), (6, .getfield 11, 3), (9, .iconst 0, 1), (10, .iaload, 1), (11, .if_icmp .ge 18, 3), (14, .iload_n 1, 1), (15, .aload_n 0, 1), (16, .iload_n 2, 1), (17, .iconst 0, 1), (18, .invokevirtual 69, 3), (21, .iadd, 1), (22, .istore_n 1, 1), (23, .iinc 2 1, 3), (26, .goto (-22), 3), (29, .iload_n 1, 1), (30, .ireturn, 1)], yX8_people, cX8_people, 3, (some .int), 1, 22)
def az_m_X8_letter : az_M := (8, [(0, .iload_n 1, 1), (1, .ifCond .ge 10, 3), (4, .aload_n 0, 1), (5, .bipush (-4), 2), (7, .invokevirtual 21, 3), (10, .ireturn, 1), (11, .iload_n 1, 1), (12, .sipush 255, 3), (15, .if_icmp .gt 12, 3), (18, .aload_n 0, 1), (19, .getfield 73, 3), (22, .bipush 80, 2), (24, .if_icmp .ne 10, 3), (27, .aload_n 0, 1), (28, .bipush (-6), 2), (30, .invokevirtual 21, 3), (33, .ireturn, 1), (34, .aload_n 0, 1), (35, .getfield 34, 3), (38, .aload_n 0, 1), (39, .getfield 73, 3), (42, .iload_n 1, 1), (43, .iastore, 1), (44, .aload_n 0, 1), (45, .dup, 1), (46, .getfield 73, 3), (49, .iconst 1, 1), (50, .iadd, 1), (51, .putfield 73, 3), (54, .aload_n 0, 1), (55, .getfield 73, 3), (58, .ireturn, 1)], yX8_letter, cX8_letter, 2, (some .int), 1, 21)
def az_m_X8_expect : az_M := (8, [(0, .aload_n 0, 1), (1, .getfield 77, 3), (4, .ifCond .eq 40, 3), (7, .aload_n 0, 1), (8, .getfield 80, 3), (11, .aload_n 0, 1), (12, .getfield 73, 3), (15, .if_icmp .ge 29, 3), (18, .aload_n 0, 1), (19, .getfield 34, 3), (22, .aload_n 0, 1), (23, .getfield 80, 3), (26, .iaload, 1), (27, .iload_n 1, 1), (28, .if_icmp .ne 16, 3), (31, .aload_n 0, 1), (32, .dup, 1), (33, .getfield 80, 3), (36, .iconst 1, 1), (37, .iadd, 1), (38, .putfield 80, 3), (41, .goto 8, 3), (44, .aload_n 0, 1), (45, .iconst 0, 1), (46, .putfield 77, 3), (49, .return_, 1)], yX8_expect, cX8_expect, 2, none, 0, 0)
def az_m_X8_oneOf : az_M := (8, [(0, .iconst (-1), 1), (1, .istore_n 2, 1), (2, .iconst 0, 1), (3, .istore_n 3, 1), (4, .iload_n 3, 1), (5, .aload_n 1, 1), (6, .arraylength, 1), (7, .if_icmp .ge 48, 3), (10, .aload_n 0, 1), (11, .getfield 77, 3), (14, .ifCond .eq 41, 3), (17, .iload_n 2, 1), (18, .ifCond .ge 37, 3), (21, .aload_n 0, 1), (22, .getfield 80, 3), (25, .aload_n 0, 1), (26, .getfield 73, 3), (29, .if_icmp .ge 20, 3), (32, .aload_n 0, 1), (33, .getfield 34, 3), (36, .aload_n 0, 1), (37, .getfield 80, 3), (40, .iaload, 1), (41, .aload_n 1, 1), (42, .iload_n 3, 1), (43, .caload, 1), (44, .if_icmp .ne 5, 3), (47, .iload_n 3, 1), (48, .istore_n 2, 1), (49, .iinc 3 1, 3), (52, .goto (-48), 3), (55, .iload_n 2, 1), (56, .ifCond .ge 10, 3), (59, .aload_n 0, 1), (60, .iconst 0, 1), (61, .putfield 77, 3), (64, .iconst 0, 1), (65, .ireturn, 1), (66, .aload_n 0, 1), (67, .dup, 1), (68, .getfield 80, 3), (71, .iconst 1, 1), (72, .iadd, 1), (73, .putfield 80, 3), (76, .iload_n 2, 1), (77, .ireturn, 1)], yX8_oneOf, cX8_oneOf, 4, (some .int), 0, 0)
def az_m_X8_figures : az_M := (8, [(0, .iconst 0, 1), (1, .istore_n 2, 1), (2, .iconst 0, 1), (3, .istore_n 3, 1), (4, .aload_n 0, 1), (5, .getfield 77, 3), (8, .ifCond .eq 81, 3), (11, .iload_n 3, 1), (12, .iload_n 1, 1), (13, .if_icmp .ge 76, 3), (16, .aload_n 0, 1), (17, .getfield 80, 3), (20, .aload_n 0, 1), (21, .getfield 73, 3), (24, .if_icmp .ge 65, 3), (27, .aload_n 0, 1), (28, .getfield 34, 3), (31, .aload_n 0, 1), (32, .getfield 80, 3), (35, .iaload, 1), (36, .bipush 48, 2), (38, .if_icmp .lt 51, 3), (41, .aload_n 0, 1), (42, .getfield 34, 3), (45, .aload_n 0, 1), (46, .getfield 80, 3), (49, .iaload, 1), (50, .bipush 57, 2), (52, .if_icmp .gt 37, 3), (55, .bipush 10, 2), (57, .iload_n 2, 1), (58, .imul, 1), (59, .aload_n 0, 1), (60, .getfield 34, 3), (63, .aload_n 0, 1), (64, .getfield 80, 3), (67, .iaload, 1), (68, .iadd, 1), (69, .bipush 48, 2), (71, .isub, 1), (72, .istore_n 2, 1), (73, .aload_n 0, 1), (74, .dup, 1), (75, .getfield 80, 3), (78, .iconst 1, 1), (79, .iadd, 1), (80, .putfield 80, 3), (83, .iinc 3 1, 3), (86, .goto (-82), 3), (89, .iload_n 3, 1), (90, .ifCond .ne 8, 3), (93, .aload_n 0, 1), (94, .iconst 0, 1), (95, .putfield 77, 3), (98, .iload_n 2, 1), (99, .ireturn, 1)], yX8_figures, cX8_figures, 4, (some .int), 0, 0)
def az_m_X8_statement : az_M := (8, [(0, .aload_n 0, 1), (1, .aload_n 0, 1), (2, .aload_n 0, 1), (3, .getfield 37, 3), (6, .invokevirtual 83, 3), (9, .putfield 87, 3), (12, .aload_n 0, 1), (13, .getfield 87, 3), (16, .iconst 1, 1), (17, .if_icmp .ne 81, 3), (20, .aload_n 0, 1), (21, .getfield 47, 3), (24, .iconst 0, 1), (25, .aload_n 0, 1), (26, .iconst 1, 1), (27, .invokevirtual 90, 3), (30, .iastore, 1), (31, .aload_n 0, 1), (32, .getfield 47, 3), (35, .iconst 1, 1), (36, .aload_n 0, 1), (37, .aload_n 0, 1), (38, .getfield 41, 3), (41, .invokevirtual 83, 3), (44, .iastore, 1), (45, .aload_n 0, 1), (46, .getfield 47, 3), (49, .iconst 2, 1), (50, .aload_n 0, 1), (51, .iconst 1, 1), (52, .invokevirtual 90, 3), (55, .iastore, 1), (56, .aload_n 0, 1), (57, .bipush 44, 2), (59, .invokevirtual 93, 3), (62, .aload_n 0, 1), (63, .getfield 47, 3), (66, .iconst 3, 1), (67, .aload_n 0, 1), (68, .iconst 1, 1), (69, .invokevirtual 90, 3), (72, .iastore, 1), (73, .aload_n 0, 1), (74, .getfield 47, 3), (77, .iconst 4, 1), (78, .aload_n 0, 1), (79, .iconst 1, 1), (80, .invokevirtual 90, 3), (83, .iastore, 1), (84, .aload_n 0, 1), (85, .getfield 47, 3), (88, .iconst 5, 1), (89, .aload_n 0, 1), (90, .iconst 1, 1), (91, .invokevirtual 90, 3), (94, .iastore, 1), (95, .goto 50, 3), (98, .aload_n 0, 1), (99, .getfield 87, 3), (102, .iconst 2, 1), (103, .if_icmp .ne 31, 3), (106, .aload_n 0, 1), (107, .getfield 47, 3), (110, .iconst 0, 1), (111, .aload_n 0, 1), (112, .aload_n 0, 1), (113, .getfield 44, 3), (116, .invokevirtual 83, 3), (119, .iastore, 1), (120, .aload_n 0, 1), (121, .getfield 47, 3), (124, .iconst 1, 1), (125, .aload_n 0, 1), (126, .iconst 1, 1), (127, .invokevirtual 90, 3), (130, .iastore, 1), (131, .goto 14, 3), (134, .aload_n 0, 1), (135, .getfield 47, 3), (138, .iconst 0, 1), (139, .aload_n 0, 1), (140, .iconst 2, 1), (141, .invokevirtual 90, 3), (144, .iastore, 1), (145, .aload_n 0, 1), (146, .bipush 59, 2), (148, .invokevirtual 93, 3), (151, .return_, 1)], yX8_statement, cX8_statement, 1, none, 1, 23)
def az_m_X8_isAsItMustBe : az_M := (8, [(0, .aload_n 0, 1), (1, .getfield 87, 3), (4, .lookupswitch 112 #[(1, 28), (2, 79)], 28), (32, .aload_n 0, 1), (33, .getfield 47, 3), (36, .iconst 0, 1), (37, .iaload, 1), (38, .iconst 1, 1), (39, .if_icmp .lt 42, 3), (42, .iload_n 1, 1), (43, .iconst 4, 1), (44, .if_icmp .ge 37, 3), (47, .aload_n 0, 1), (48, .getfield 47, 3), (51, .iconst 1, 1), (52, .iaload, 1), (53, .iconst 2, 1), (54, .if_icmp .eq 13, 3), (57, .aload_n 0, 1), (58, .getfield 47, 3), (61, .iconst 1, 1), (62, .iaload, 1), (63, .iconst 3, 1), (64, .if_icmp .ne 13, 3), (67, .aload_n 0, 1), (68, .getfield 47, 3), (71, .iconst 2, 1), (72, .iaload, 1), (73, .iload_n 2, 1), (74, .if_icmp .ge 7, 3), (77, .iconst 1, 1), (78, .goto 4, 3), (81, .iconst 0, 1), (82, .ireturn, 1), (83, .aload_n 0, 1), (84, .getfield 47, 3), (87, .iconst 1, 1), (88, .iaload, 1), (89, .iconst 1, 1), (90, .if_icmp .lt 24, 3), (93, .aload_n 0, 1), (94, .getfield 47, 3), (97, .iconst 1, 1), (98, .iaload, 1), (99, .bipush 6, 2), (101, .if_icmp .gt 13, 3), (104, .iload_n 2, 1), (105, .bipush 6, 2), (107, .if_icmp .ge 7, 3), (110, .iconst 1, 1), (111, .goto 4, 3), (114, .iconst 0, 1), (115, .ireturn, 1), (116, .aload_n 0, 1), (117, .getfield 47, 3), (120, .iconst 0, 1), (121, .iaload, 1), (122, .bipush 60, 2), (124, .if_icmp .gt 7, 3), (127, .iconst 1, 1), (128, .goto 4, 3), (131, .iconst 0, 1), (132, .ireturn, 1)], yX8_isAsItMustBe, cX8_isAsItMustBe, 3, (some .boolean), 0, 0)
def az_m_X8_remember : az_M := (8, [(0, .bipush 7, 2), (2, .istore_n 2, 1), (3, .iload_n 2, 1), (4, .ifCond .le 29, 3), (7, .aload_n 0, 1), (8, .getfield 11, 3), (11, .bipush 60, 2), (13, .iload_n 2, 1), (14, .iadd, 1), (15, .aload_n 0, 1), (16, .getfield 11, 3), (19, .bipush 60, 2), (21, .iload_n 2, 1), (22, .iadd, 1), (23, .iconst 1, 1), (24, .isub, 1), (25, .iaload, 1), (26, .iastore, 1), (27, .iinc 2 (-1), 3), (30, .goto (-27), 3), (33, .aload_n 0, 1), (34, .getfield 11, 3), (37, .bipush 60, 2), (39, .iload_n 1, 1), (40, .iastore, 1), (41, .aload_n 0, 1), (42, .getfield 11, 3), (45, .iconst 4, 1), (46, .dup2, 1), (47, .iaload, 1), (48, .aload_n 0, 1), (49, .getfield 11, 3), (52, .iconst 4, 1), (53, .iaload, 1), (54, .bipush 8, 2), (56, .if_icmp .ge 7, 3), (59, .iconst 1, 1), (60, .goto 4, 3), (63, .iconst 0, 1), (64, .iadd, 1), (65, .iastore, 1), (66, .return_, 1)], yX8_remember, cX8_remember, 3, none, 0, 0)
def az_m_X8_come : az_M := (8, [(0, .aload_n 0, 1), (1, .getfield 87, 3), (4, .tableswitch 173 0 2 #[28, 43, 95], 28), (32, .aload_n 0, 1), (33, .getfield 11, 3), (36, .iconst 2, 1), (37, .aload_n 0, 1), (38, .getfield 47, 3), (41, .iconst 0, 1), (42, .iaload, 1), (43, .iastore, 1), (44, .goto 143, 3), (47, .iconst 0, 1), (48, .istore_n 1, 1), (49, .iload_n 1, 1), (50, .bipush 6, 2), (52, .if_icmp .ge 34, 3), (55, .aload_n 0, 1), (56, .getfield 11, 3), (59, .bipush 10, 2), (61, .bipush 6, 2), (63, .aload_n 0, 1), (64, .getfield 11, 3), (67, .iconst 0, 1), (68, .iaload, 1), (69, .imul, 1), (70, .iadd, 1), (71, .iload_n 1, 1), (72, .iadd, 1), (73, .aload_n 0, 1), (74, .getfield 47, 3), (77, .iload_n 1, 1), (78, .iaload, 1), (79, .iastore, 1), (80, .iinc 1 1, 3), (83, .goto (-34), 3), (86, .aload_n 0, 1), (87, .getfield 11, 3), (90, .iconst 0, 1), (91, .dup2, 1), (92, .iaload, 1), (93, .iconst 1, 1), (94, .iadd, 1), (95, .iastore, 1), (96, .goto 91, 3), (99, .aload_n 0, 1), (100, .getfield 11, 3), (103, .bipush 40, 2), (105, .iconst 3, 1), (106, .aload_n 0, 1), (107, .getfield 11, 3), (110, .iconst 1, 1), (111, .iaload, 1), (112, .imul, 1), (113, .iadd, 1), (114, .aload_n 0, 1), (115, .getfield 47, 3), (118, .iconst 0, 1), (119, .iaload, 1), (120, .iastore, 1), (121, .aload_n 0, 1), (122, .getfield 11, 3), (125, .bipush 40, 2), (127, .iconst 3, 1), (128, .aload_n 0, 1), (129, .getfield 11, 3), (132, .iconst 1, 1), (133, .iaload, 1), (134, .imul, 1), (135, .iadd, 1), (136, .iconst 1, 1), (137, .iadd, 1), (138, .aload_n 0, 1), (139, .getfield 47, 3), (142, .iconst 1, 1), (143, .iaload, 1), (144, .iastore, 1), (145, .aload_n 0, 1), (146, .getfield 11, 3), (149, .bipush 40, 2), (151, .iconst 3, 1), (152, .aload_n 0, 1), (153, .getfield 11, 3), (156, .iconst 1, 1), (157, .iaload, 1), (158, .imul, 1), (159, .iadd, 1), (160, .iconst 2, 1), (161, .iadd, 1), (162, .iconst 0, 1), (163, .iastore, 1), (164, .aload_n 0, 1), (165, .getfield 11, 3), (168, .iconst 1, 1), (169, .dup2, 1), (170, .iaload, 1), (171, .iconst 1, 1), (172, .iadd, 1), (173, .iastore, 1), (174, .goto 13, 3), (177, .aload_n 0, 1), (178, .aload_n 0, 1), (179, .getfield 47, 3), (182, .iconst 0, 1), (183, .iaload, 1), (184, .invokevirtual 97, 3), (187, .return_, 1)], yX8_come, cX8_come, 2, none, 1, 22)
def az_m_X8_read : az_M := (8, [(0, .iconst 0, 1), (1, .istore_n 1, 1), (2, .aload_n 0, 1), (3, .iconst 0, 1), (4, .putfield 80, 3), (7, .aload_n 0, 1), (8, .iconst 1, 1), (9, .putfield 77, 3), (12, .aload_n 0, 1), (13, .invokevirtual 101, 3), (16, .iinc 1 1, 3), (19, .aload_n 0, 1), (20, .getfield 77, 3), (23, .ifCond .eq 14, 3), (26, .aload_n 0, 1), (27, .getfield 80, 3), (30, .aload_n 0, 1), (31, .getfield 73, 3), (34, .if_icmp .lt (-22), 3), (37, .aload_n 0, 1), (38, .getfield 77, 3), (41, .ifCond .ne 12, 3), (44, .sipush (-1000), 3), (47, .aload_n 0, 1), (48, .getfield 80, 3), (51, .isub, 1), (52, .ireturn, 1), (53, .aload_n 0, 1), (54, .iconst 0, 1), (55, .putfield 80, 3), (58, .aload_n 0, 1), (59, .getfield 11, 3), (62, .iconst 0, 1), (63, .iaload, 1), (64, .istore_n 2, 1), (65, .aload_n 0, 1), (66, .getfield 11, 3), (69, .iconst 1, 1), (70, .iaload, 1), (71, .istore_n 3, 1), (72, .aload_n 0, 1), (73, .getfield 80, 3), (76, .aload_n 0, 1), (77, .getfield 73, 3), (80, .if_icmp .ge 64, 3), (83, .aload_n 0, 1), (84, .getfield 80, 3), (87, .istore 4, 2), (89, .aload_n 0, 1), (90, .invokevirtual 101, 3), (93, .aload_n 0, 1), (94, .iload_n 2, 1), (95, .iload_n 3, 1), (96, .invokevirtual 104, 3), (99, .ifCond .ne 10, 3), (102, .sipush (-2000), 3), (105, .iload 4, 2), (107, .isub, 1), (108, .ireturn, 1), (109, .iload_n 2, 1), (110, .aload_n 0, 1), (111, .getfield 87, 3), (114, .iconst 1, 1), (115, .if_icmp .ne 7, 3), (118, .iconst 1, 1), (119, .goto 4, 3), (122, .iconst 0, 1), (123, .iadd, 1), (124, .istore_n 2, 1), (125, .iload_n 3, 1), (126, .aload_n 0, 1), (127, .getfield 87, 3), (130, .iconst 2, 1), (131, .if_icmp .ne 7, 3), (134, .iconst 1, 1), (135, .goto 4, 3), (138, .iconst 0, 1), (139, .iadd, 1), (140, .istore_n 3, 1), (141, .goto (-69), 3), (144, .aload_n 0, 1), (145, .iconst 0, 1), (146, .putfield 80, 3), (149, .aload_n 0, 1), (150, .getfield 80, 3), (153, .aload_n 0, 1), (154, .getfield 73, 3), (157, .if_icmp .ge 14, 3), (160, .aload_n 0, 1), (161, .invokevirtual 101, 3), (164, .aload_n 0, 1), (165, .invokevirtual 108, 3), (168, .goto (-19), 3), (171, .iload_n 1, 1), (172, .ireturn, 1)], yX8_read, cX8_read, 5, (some .int), 2, 43)
def az_m_X8_town : az_M := (8, [(0, .aload_n 0, 1), (1, .invokevirtual 111, 3), (4, .istore_n 1, 1), (5, .aload_n 0, 1), (6, .iconst 0, 1), (7, .putfield 73, 3), (10, .iload_n 1, 1), (11, .ireturn, 1)], yX8_town, cX8_town, 2, (some .int), 3, 67)
def az_m_X8_ago : az_M := (8, [(0, .iload_n 1, 1), (1, .aload_n 0, 1), (2, .getfield 11, 3), (5, .iconst 4, 1), (6, .iaload, 1), (7, .if_icmp .gt 17, 3), (10, .aload_n 0, 1), (11, .getfield 11, 3), (14, .bipush 60, 2), (16, .iload_n 1, 1), (17, .iadd, 1), (18, .iconst 1, 1), (19, .isub, 1), (20, .iaload, 1), (21, .goto 9, 3), (24, .aload_n 0, 1), (25, .getfield 11, 3), (28, .iconst 2, 1), (29, .iaload, 1), (30, .ireturn, 1)], yX8_ago, cX8_ago, 2, (some .int), 0, 0)
def az_m_X8_foretold : az_M := (8, [(0, .iconst 0, 1), (1, .istore_n 3, 1), (2, .iload_n 1, 1), (3, .tableswitch 81 0 5 #[37, 43, 81, 58, 81, 76], 37), (40, .aload_n 0, 1), (41, .iload_n 2, 1), (42, .invokevirtual 115, 3), (45, .ireturn, 1), (46, .iconst 0, 1), (47, .aload_n 0, 1), (48, .invokevirtual 118, 3), (51, .aload_n 0, 1), (52, .iload_n 2, 1), (53, .invokevirtual 115, 3), (56, .isub, 1), (57, .invokestatic 121, 3), (60, .ireturn, 1), (61, .iconst 0, 1), (62, .iconst 2, 1), (63, .aload_n 0, 1), (64, .iconst 1, 1), (65, .invokevirtual 115, 3), (68, .imul, 1), (69, .aload_n 0, 1), (70, .iload_n 2, 1), (71, .invokevirtual 115, 3), (74, .isub, 1), (75, .invokestatic 121, 3), (78, .ireturn, 1), (79, .bipush 10, 2), (81, .iload_n 2, 1), (82, .imul, 1), (83, .ireturn, 1), (84, .iconst 1, 1), (85, .istore 4, 2), (87, .iload 4, 2), (89, .iload_n 2, 1), (90, .if_icmp .gt 18, 3), (93, .iload_n 3, 1), (94, .aload_n 0, 1), (95, .iload 4, 2), (97, .invokevirtual 115, 3), (100, .iadd, 1), (101, .istore_n 3, 1), (102, .iinc 4 1, 3), (105, .goto (-18), 3), (108, .iload_n 1, 1), (109, .iconst 2, 1), (110, .if_icmp .ne 9, 3), (113, .iload_n 3, 1), (114, .iload_n 2, 1), (115, .idiv, 1), (116, .goto 12, 3), (119, .iconst 0, 1), (120, .iload_n 3, 1), (121, .iload_n 2, 1), (122, .idiv, 1), (123, .iload_n 2, 1), (124, .isub, 1), (125, .invokestatic 121, 3), (128, .ireturn, 1)], yX8_foretold, cX8_foretold, 5, (some .int), 2, 44)
def az_m_X8_isRoom : az_M := (8, [(0, .aload_n 0, 1), (1, .aload_n 0, 1), (2, .getfield 11, 3), (5, .bipush 40, 2), (7, .iconst 3, 1), (8, .iload_n 1, 1), (9, .imul, 1), (10, .iadd, 1), (11, .iaload, 1), (12, .aload_n 0, 1), (13, .getfield 11, 3), (16, .bipush 40, 2), (18, .iconst 3, 1), (19, .iload_n 1, 1), (20, .imul, 1), (21, .iadd, 1), (22, .iconst 1, 1), (23, .iadd, 1), (24, .iaload, 1), (25, .invokevirtual 126, 3), (28, .aload_n 0, 1), (29, .getfield 11, 3), (32, .iconst 2, 1), (33, .iaload, 1), (34, .if_icmp .gt 7, 3), (37, .iconst 1, 1), (38, .goto 4, 3), (41, .iconst 0, 1), (42, .ireturn, 1)], yX8_isRoom, cX8_isRoom, 2, (some .boolean), 3, 68)
def az_m_X8_hat : az_M := (8, [(0, .iload_n 1, 1), (1, .istore_n 2, 1), (2, .iload_n 1, 1), (3, .iconst 1, 1), (4, .iadd, 1), (5, .istore_n 3, 1), (6, .iload_n 3, 1), (7, .aload_n 0, 1), (8, .getfield 11, 3), (11, .iconst 1, 1), (12, .iaload, 1), (13, .if_icmp .ge 44, 3), (16, .aload_n 0, 1), (17, .getfield 11, 3), (20, .bipush 40, 2), (22, .iconst 3, 1), (23, .iload_n 3, 1), (24, .imul, 1), (25, .iadd, 1), (26, .iconst 2, 1), (27, .iadd, 1), (28, .iaload, 1), (29, .aload_n 0, 1), (30, .getfield 11, 3), (33, .bipush 40, 2), (35, .iconst 3, 1), (36, .iload_n 2, 1), (37, .imul, 1), (38, .iadd, 1), (39, .iconst 2, 1), (40, .iadd, 1), (41, .iaload, 1), (42, .if_icmp .le 7, 3), (45, .iload_n 3, 1), (46, .goto 4, 3), (49, .iload_n 2, 1), (50, .istore_n 2, 1), (51, .iinc 3 1, 3), (54, .goto (-48), 3), (57, .iload_n 2, 1), (58, .ireturn, 1)], yX8_hat, cX8_hat, 4, (some .int), 0, 0)
def az_m_X8_present : az_M := (8, [(0, .iconst 0, 1), (1, .istore_n 1, 1), (2, .iconst 0, 1), (3, .istore_n 2, 1), (4, .iload_n 2, 1), (5, .aload_n 0, 1), (6, .getfield 11, 3), (9, .iconst 0, 1), (10, .iaload, 1), (11, .if_icmp .ge 153, 3), (14, .aload_n 0, 1), (15, .iload_n 2, 1), (16, .iconst 2, 1), (17, .invokevirtual 69, 3), (20, .istore_n 3, 1), (21, .aload_n 0, 1), (22, .iload_n 2, 1), (23, .iconst 1, 1), (24, .invokevirtual 69, 3), (27, .tableswitch 102 0 4 #[33, 102, 43, 57, 75], 33), (60, .aload_n 0, 1), (61, .getfield 50, 3), (64, .iload_n 2, 1), (65, .iconst 1, 1), (66, .bastore, 1), (67, .goto 69, 3), (70, .aload_n 0, 1), (71, .getfield 50, 3), (74, .iload_n 2, 1), (75, .aload_n 0, 1), (76, .iload_n 3, 1), (77, .invokevirtual 129, 3), (80, .bastore, 1), (81, .goto 55, 3), (84, .aload_n 0, 1), (85, .getfield 50, 3), (88, .iload_n 2, 1), (89, .aload_n 0, 1), (90, .aload_n 0, 1), (91, .iload_n 3, 1), (92, .invokevirtual 133, 3), (95, .invokevirtual 129, 3), (98, .bastore, 1), (99, .goto 37, 3), (102, .aload_n 0, 1), (103, .getfield 50, 3), (106, .iload_n 2, 1), (107, .aload_n 0, 1), (108, .getfield 11, 3), (111, .iconst 3, 1), (112, .iaload, 1), (113, .iload_n 3, 1), (114, .iconst 1, 1), (115, .iadd, 1), (116, .irem, 1), (117, .ifCond .ne 7, 3), (120, .iconst 1, 1), (121, .goto 4, 3), (124, .iconst 0, 1), (125, .bastore, 1), (126, .goto 10, 3), (129, .aload_n 0, 1), (130, .getfield 50, 3), (133, .iload_n 2, 1), (134, .iconst 0, 1), (135, .bastore, 1), (136, .iload_n 1, 1), (137, .aload_n 0, 1), (138, .getfield 50, 3), (141, .iload_n 2, 1), (142, .baload, 1), (143, .ifCond .eq 12, 3), (146, .aload_n 0, 1), (147, .iload_n 2, 1), (148, .iconst 0, 1), (149, .invokevirtual 69, 3), (152, .goto 4, 3), (155, .iconst 0, 1), (156, .iadd, 1), (157, .istore_n 1, 1), (158, .iinc 2 1, 3), (161, .goto (-157), 3), (164, .iconst 0, 1), (165, .istore_n 2, 1), (166, .iload_n 2, 1), (167, .aload_n 0, 1), (168, .getfield 11, 3), (171, .iconst 0, 1), (172, .iaload, 1), (173, .if_icmp .ge 69, 3), (176, .aload_n 0, 1), (177, .iload_n 2, 1), (178, .iconst 1, 1), (179, .invokevirtual 69, 3), (182, .iconst 5, 1), (183, .if_icmp .ne 53, 3), (186, .aload_n 0, 1), (187, .getfield 50, 3), (190, .iload_n 2, 1), (191, .iload_n 1, 1), (192, .aload_n 0, 1), (193, .iload_n 2, 1), (194, .iconst 0, 1), (195, .invokevirtual 69, 3), (198, .iadd, 1), (199, .aload_n 0, 1), (200, .getfield 11, 3), (203, .iconst 2, 1), (204, .iaload, 1), (205, .if_icmp .gt 7, 3), (208, .iconst 1, 1), (209, .goto 4, 3), (212, .iconst 0, 1), (213, .bastore, 1), (214, .iload_n 1, 1), (215, .aload_n 0, 1), (216, .getfield 50, 3), (219, .iload_n 2, 1), (220, .baload, 1), (221, .ifCond .eq 12, 3), (224, .aload_n 0, 1), (225, .iload_n 2, 1), (226, .iconst 0, 1), (227, .invokevirtual 69, 3), (230, .goto 4, 3), (233, .iconst 0, 1), (234, .iadd, 1), (235, .istore_n 1, 1), (236, .iinc 2 1, 3), (239, .goto (-73), 3), (242, .iload_n 1, 1), (243, .ireturn, 1)], yX8_present, cX8_present, 4, (some .int), 4, 89)
def az_m_X8_worthGone : az_M := (8, [(0, .iload_n 2, 1), (1, .aload_n 0, 1), (2, .getfield 11, 3), (5, .iconst 2, 1), (6, .iaload, 1), (7, .if_icmp .gt 12, 3), (10, .aload_n 0, 1), (11, .iload_n 1, 1), (12, .iconst 3, 1), (13, .invokevirtual 69, 3), (16, .goto 9, 3), (19, .aload_n 0, 1), (20, .iload_n 1, 1), (21, .iconst 4, 1), (22, .invokevirtual 69, 3), (25, .aload_n 0, 1), (26, .getfield 11, 3), (29, .iconst 5, 1), (30, .iaload, 1), (31, .isub, 1), (32, .ireturn, 1)], yX8_worthGone, cX8_worthGone, 3, (some .int), 1, 22)
def az_m_X8_worthNext : az_M := (8, [(0, .aload_n 0, 1), (1, .getfield 50, 3), (4, .iload_n 1, 1), (5, .baload, 1), (6, .ifCond .eq 12, 3), (9, .aload_n 0, 1), (10, .iload_n 1, 1), (11, .iload_n 2, 1), (12, .invokevirtual 136, 3), (15, .goto 9, 3), (18, .aload_n 0, 1), (19, .iload_n 1, 1), (20, .iconst 5, 1), (21, .invokevirtual 69, 3), (24, .ireturn, 1)], yX8_worthNext, cX8_worthNext, 3, (some .int), 2, 44)
def az_m_X8_goOn : az_M := (8, [(0, .aload_n 0, 1), (1, .invokevirtual 139, 3), (4, .istore_n 1, 1), (5, .iconst 0, 1), (6, .istore_n 2, 1), (7, .iload_n 2, 1), (8, .aload_n 0, 1), (9, .getfield 11, 3), (12, .iconst 1, 1), (13, .iaload, 1), (14, .if_icmp .ge 53, 3), (17, .aload_n 0, 1), (18, .getfield 11, 3), (21, .bipush 40, 2), (23, .iconst 3, 1), (24, .iload_n 2, 1), (25, .imul, 1), (26, .iadd, 1), (27, .iconst 2, 1), (28, .iadd, 1), (29, .dup2, 1), (30, .iaload, 1), (31, .aload_n 0, 1), (32, .iload_n 2, 1), (33, .invokevirtual 129, 3), (36, .iload_n 1, 1), (37, .aload_n 0, 1), (38, .getfield 11, 3), (41, .iconst 2, 1), (42, .iaload, 1), (43, .if_icmp .gt 7, 3), (46, .iconst 1, 1), (47, .goto 4, 3), (50, .iconst 0, 1), (51, .if_icmp .ne 7, 3), (54, .iconst 1, 1), (55, .goto 4, 3), (58, .iconst 0, 1), (59, .iadd, 1), (60, .iastore, 1), (61, .iinc 2 1, 3), (64, .goto (-57), 3), (67, .aload_n 0, 1), (68, .iload_n 1, 1), (69, .invokevirtual 97, 3), (72, .aload_n 0, 1), (73, .getfield 11, 3), (76, .iconst 3, 1), (77, .dup2, 1), (78, .iaload, 1), (79, .iconst 1, 1), (80, .iadd, 1), (81, .iastore, 1), (82, .iload_n 1, 1), (83, .ireturn, 1)], yX8_goOn, cX8_goOn, 3, (some .int), 5, 112)
def az_m_X8_isNoSort : az_M := (8, [(0, .iload_n 1, 1), (1, .ifCond .lt 13, 3), (4, .iload_n 1, 1), (5, .aload_n 0, 1), (6, .getfield 11, 3), (9, .iconst 0, 1), (10, .iaload, 1), (11, .if_icmp .lt 7, 3), (14, .iconst 1, 1), (15, .goto 4, 3), (18, .iconst 0, 1), (19, .ireturn, 1)], yX8_isNoSort, cX8_isNoSort, 2, (some .boolean), 0, 0)
def az_m_X8_sort : az_M := (8, [(0, .aload_n 0, 1), (1, .iload_n 1, 1), (2, .invokevirtual 142, 3), (5, .ifCond .eq 9, 3), (8, .aload_n 0, 1), (9, .iconst (-1), 1), (10, .invokevirtual 21, 3), (13, .ireturn, 1), (14, .iload_n 2, 1), (15, .ifCond .lt 8, 3), (18, .iload_n 2, 1), (19, .iconst 5, 1), (20, .if_icmp .le 12, 3), (23, .aload_n 0, 1), (24, .bipush (-2), 2), (26, .invokevirtual 21, 3), (29, .goto 9, 3), (32, .aload_n 0, 1), (33, .iload_n 1, 1), (34, .iload_n 2, 1), (35, .invokevirtual 69, 3), (38, .ireturn, 1)], yX8_sort, cX8_sort, 3, (some .int), 1, 22)
def az_m_X8_rule : az_M := (8, [(0, .iload_n 1, 1), (1, .ifCond .lt 13, 3), (4, .iload_n 1, 1), (5, .aload_n 0, 1), (6, .getfield 11, 3), (9, .iconst 1, 1), (10, .iaload, 1), (11, .if_icmp .lt 9, 3), (14, .aload_n 0, 1), (15, .iconst (-1), 1), (16, .invokevirtual 21, 3), (19, .ireturn, 1), (20, .iload_n 2, 1), (21, .ifCond .lt 8, 3), (24, .iload_n 2, 1), (25, .iconst 3, 1), (26, .if_icmp .le 10, 3), (29, .aload_n 0, 1), (30, .bipush (-2), 2), (32, .invokevirtual 21, 3), (35, .ireturn, 1), (36, .iload_n 2, 1), (37, .iconst 3, 1), (38, .if_icmp .ne 34, 3), (41, .aload_n 0, 1), (42, .aload_n 0, 1), (43, .getfield 11, 3), (46, .bipush 40, 2), (48, .iconst 3, 1), (49, .iload_n 1, 1), (50, .imul, 1), (51, .iadd, 1), (52, .iaload, 1), (53, .aload_n 0, 1), (54, .getfield 11, 3), (57, .bipush 40, 2), (59, .iconst 3, 1), (60, .iload_n 1, 1), (61, .imul, 1), (62, .iadd, 1), (63, .iconst 1, 1), (64, .iadd, 1), (65, .iaload, 1), (66, .invokevirtual 126, 3), (69, .goto 16, 3), (72, .aload_n 0, 1), (73, .getfield 11, 3), (76, .bipush 40, 2), (78, .iconst 3, 1), (79, .iload_n 1, 1), (80, .imul, 1), (81, .iadd, 1), (82, .iload_n 2, 1), (83, .iadd, 1), (84, .iaload, 1), (85, .ireturn, 1)], yX8_rule, cX8_rule, 3, (some .int), 3, 68)
def az_m_X8_remembered : az_M := (8, [(0, .iload_n 1, 1), (1, .iconst 1, 1), (2, .if_icmp .ge 10, 3), (5, .aload_n 0, 1), (6, .bipush (-4), 2), (8, .invokevirtual 21, 3), (11, .ireturn, 1), (12, .iload_n 1, 1), (13, .bipush 8, 2), (15, .if_icmp .le 12, 3), (18, .aload_n 0, 1), (19, .bipush (-6), 2), (21, .invokevirtual 21, 3), (24, .goto 8, 3), (27, .aload_n 0, 1), (28, .iload_n 1, 1), (29, .invokevirtual 115, 3), (32, .ireturn, 1)], yX8_remembered, cX8_remembered, 2, (some .int), 1, 21)
def az_m_X8_penny : az_M := (8, [(0, .iload_n 1, 1), (1, .ifCond .ge 10, 3), (4, .aload_n 0, 1), (5, .bipush (-4), 2), (7, .invokevirtual 21, 3), (10, .ireturn, 1), (11, .iload_n 1, 1), (12, .bipush 9, 2), (14, .if_icmp .le 10, 3), (17, .aload_n 0, 1), (18, .bipush (-6), 2), (20, .invokevirtual 21, 3), (23, .ireturn, 1), (24, .aload_n 0, 1), (25, .getfield 11, 3), (28, .iconst 5, 1), (29, .iaload, 1), (30, .istore_n 2, 1), (31, .aload_n 0, 1), (32, .getfield 11, 3), (35, .iconst 5, 1), (36, .iload_n 1, 1), (37, .iastore, 1), (38, .iload_n 2, 1), (39, .ireturn, 1)], yX8_penny, cX8_penny, 3, (some .int), 1, 21)
def az_m_X8_week : az_M := (8, [(0, .aload_n 0, 1), (1, .invokevirtual 145, 3), (4, .ireturn, 1)], yX8_week, cX8_week, 1, (some .int), 6, 134)
def az_m_X8_next : az_M := (8, [(0, .aload_n 0, 1), (1, .invokevirtual 139, 3), (4, .ireturn, 1)], yX8_next, cX8_next, 1, (some .int), 5, 112)
def az_m_X8_goes : az_M := (8, [(0, .aload_n 0, 1), (1, .iload_n 1, 1), (2, .invokevirtual 142, 3), (5, .ifCond .eq 9, 3), (8, .aload_n 0, 1), (9, .iconst (-1), 1), (10, .invokevirtual 21, 3), (13, .ireturn, 1), (14, .aload_n 0, 1), (15, .invokevirtual 139, 3), (18, .pop, 1), (19, .aload_n 0, 1), (20, .getfield 50, 3), (23, .iload_n 1, 1), (24, .baload, 1), (25, .ifCond .eq 7, 3), (28, .iconst 1, 1), (29, .goto 4, 3), (32, .iconst 0, 1), (33, .ireturn, 1)], yX8_goes, cX8_goes, 2, (some .int), 5, 112)
def az_m_X8_worth : az_M := (8, [(0, .iload_n 1, 1), (1, .iconst (-1), 1), (2, .if_icmp .lt 13, 3), (5, .iload_n 1, 1), (6, .aload_n 0, 1), (7, .getfield 11, 3), (10, .iconst 0, 1), (11, .iaload, 1), (12, .if_icmp .lt 12, 3), (15, .ldc 148, 2), (17, .aload_n 0, 1), (18, .iconst (-1), 1), (19, .invokevirtual 21, 3), (22, .isub, 1), (23, .ireturn, 1), (24, .aload_n 0, 1), (25, .invokevirtual 139, 3), (28, .istore_n 2, 1), (29, .iload_n 1, 1), (30, .ifCond .lt 10, 3), (33, .aload_n 0, 1), (34, .iload_n 1, 1), (35, .iload_n 2, 1), (36, .invokevirtual 149, 3), (39, .ireturn, 1), (40, .iconst 0, 1), (41, .istore_n 3, 1), (42, .iconst 0, 1), (43, .istore 4, 2), (45, .iload 4, 2), (47, .aload_n 0, 1), (48, .getfield 11, 3), (51, .iconst 0, 1), (52, .iaload, 1), (53, .if_icmp .ge 27, 3), (56, .iload_n 3, 1), (57, .aload_n 0, 1), (58, .iload 4, 2), (60, .iconst 0, 1), (61, .invokevirtual 69, 3), (64, .aload_n 0, 1), (65, .iload 4, 2), (67, .iload_n 2, 1), (68, .invokevirtual 149, 3), (71, .imul, 1), (72, .iadd, 1), (73, .istore_n 3, 1), (74, .iinc 4 1, 3), (77, .goto (-32), 3), (80, .iload_n 3, 1), (81, .ireturn, 1)], yX8_worth, cX8_worth, 5, (some .int), 5, 112)
def az_m_X8_isWrong : az_M := (8, [(0, .iload_n 1, 1), (1, .iconst 1, 1), (2, .if_icmp .ge 8, 3), (5, .bipush (-4), 2), (7, .goto 14, 3), (10, .iload_n 1, 1), (11, .iload_n 2, 1), (12, .if_icmp .le 8, 3), (15, .bipush (-6), 2), (17, .goto 4, 3), (20, .iconst 0, 1), (21, .ireturn, 1)], yX8_isWrong, cX8_isWrong, 3, (some .int), 0, 0)
def az_m_X8_goAhead : az_M := (8, [(0, .aload_n 0, 1), (1, .getfield 11, 3), (4, .aload_n 0, 1), (5, .getfield 31, 3), (8, .invokestatic 17, 3), (11, .iconst 0, 1), (12, .istore_n 3, 1), (13, .iconst 1, 1), (14, .istore 4, 2), (16, .iload 4, 2), (18, .iload_n 1, 1), (19, .if_icmp .gt 40, 3), (22, .iload_n 2, 1), (23, .ifCond .lt 19, 3), (26, .aload_n 0, 1), (27, .invokevirtual 139, 3), (30, .istore 5, 2), (32, .iload_n 3, 1), (33, .aload_n 0, 1), (34, .iload_n 2, 1), (35, .iload 5, 2), (37, .invokevirtual 149, 3), (40, .iadd, 1), (41, .istore_n 3, 1), (42, .aload_n 0, 1), (43, .getfield 54, 3), (46, .iload 4, 2), (48, .aload_n 0, 1), (49, .invokevirtual 145, 3), (52, .iastore, 1), (53, .iinc 4 1, 3), (56, .goto (-40), 3), (59, .aload_n 0, 1), (60, .getfield 31, 3), (63, .aload_n 0, 1), (64, .getfield 11, 3), (67, .invokestatic 17, 3), (70, .iload_n 3, 1), (71, .ireturn, 1)], yX8_goAhead, cX8_goAhead, 6, (some .int), 6, 134)
def az_m_X8_swungIn : az_M := (8, [(0, .aload_n 0, 1), (1, .getfield 54, 3), (4, .iconst 1, 1), (5, .iaload, 1), (6, .istore_n 2, 1), (7, .aload_n 0, 1), (8, .getfield 54, 3), (11, .iconst 1, 1), (12, .iaload, 1), (13, .istore_n 3, 1), (14, .iconst 2, 1), (15, .istore 4, 2), (17, .iload 4, 2), (19, .iload_n 1, 1), (20, .if_icmp .gt 33, 3), (23, .iload_n 2, 1), (24, .aload_n 0, 1), (25, .getfield 54, 3), (28, .iload 4, 2), (30, .iaload, 1), (31, .invokestatic 152, 3), (34, .istore_n 2, 1), (35, .iload_n 3, 1), (36, .aload_n 0, 1), (37, .getfield 54, 3), (40, .iload 4, 2), (42, .iaload, 1), (43, .invokestatic 121, 3), (46, .istore_n 3, 1), (47, .iinc 4 1, 3), (50, .goto (-33), 3), (53, .iload_n 3, 1), (54, .iload_n 2, 1), (55, .isub, 1), (56, .ireturn, 1)], yX8_swungIn, cX8_swungIn, 5, (some .int), 1, 21)
def az_m_X8_after : az_M := (8, [(0, .aload_n 0, 1), (1, .iload_n 1, 1), (2, .bipush 60, 2), (4, .invokevirtual 155, 3), (7, .ifCond .eq 15, 3), (10, .aload_n 0, 1), (11, .aload_n 0, 1), (12, .iload_n 1, 1), (13, .bipush 60, 2), (15, .invokevirtual 155, 3), (18, .invokevirtual 21, 3), (21, .ireturn, 1), (22, .aload_n 0, 1), (23, .iload_n 1, 1), (24, .iconst (-1), 1), (25, .invokevirtual 158, 3), (28, .pop, 1), (29, .aload_n 0, 1), (30, .getfield 54, 3), (33, .iload_n 1, 1), (34, .iaload, 1), (35, .ireturn, 1)], yX8_after, cX8_after, 2, (some .int), 7, 159)
def az_m_X8_mean : az_M := (8, [(0, .aload_n 0, 1), (1, .iload_n 1, 1), (2, .bipush 60, 2), (4, .invokevirtual 155, 3), (7, .ifCond .eq 15, 3), (10, .aload_n 0, 1), (11, .aload_n 0, 1), (12, .iload_n 1, 1), (13, .bipush 60, 2), (15, .invokevirtual 155, 3), (18, .invokevirtual 21, 3), (21, .ireturn, 1), (22, .aload_n 0, 1), (23, .iload_n 1, 1), (24, .iconst (-1), 1), (25, .invokevirtual 158, 3), (28, .pop, 1), (29, .iconst 0, 1), (30, .istore_n 2, 1), (31, .iconst 1, 1), (32, .istore_n 3, 1), (33, .iload_n 3, 1), (34, .iload_n 1, 1), (35, .if_icmp .gt 18, 3), (38, .iload_n 2, 1), (39, .aload_n 0, 1), (40, .getfield 54, 3), (43, .iload_n 3, 1), (44, .iaload, 1), (45, .iadd, 1), (46, .istore_n 2, 1), (47, .iinc 3 1, 3), (50, .goto (-17), 3), (53, .bipush 100, 2), (55, .iload_n 2, 1), (56, .imul, 1), (57, .iload_n 1, 1), (58, .idiv, 1), (59, .ireturn, 1)], yX8_mean, cX8_mean, 4, (some .int), 7, 159)
def az_m_X8_swing : az_M := (8, [(0, .aload_n 0, 1), (1, .iload_n 1, 1), (2, .bipush 60, 2), (4, .invokevirtual 155, 3), (7, .ifCond .eq 15, 3), (10, .aload_n 0, 1), (11, .aload_n 0, 1), (12, .iload_n 1, 1), (13, .bipush 60, 2), (15, .invokevirtual 155, 3), (18, .invokevirtual 21, 3), (21, .ireturn, 1), (22, .aload_n 0, 1), (23, .iload_n 1, 1), (24, .iconst (-1), 1), (25, .invokevirtual 158, 3), (28, .pop, 1), (29, .aload_n 0, 1), (30, .iload_n 1, 1), (31, .invokevirtual 161, 3), (34, .ireturn, 1)], yX8_swing, cX8_swing, 2, (some .int), 7, 159)
def az_m_X8_good : az_M := (8, [(0, .aload_n 0, 1), (1, .iload_n 1, 1), (2, .bipush 60, 2), (4, .invokevirtual 155, 3), (7, .ifCond .eq 15, 3), (10, .aload_n 0, 1), (11, .aload_n 0, 1), (12, .iload_n 1, 1), (13, .bipush 60, 2), (15, .invokevirtual 155, 3), (18, .invokevirtual 21, 3), (21, .ireturn, 1), (22, .aload_n 0, 1), (23, .iload_n 1, 1), (24, .iconst (-1), 1), (25, .invokevirtual 158, 3), (28, .pop, 1), (29, .iconst 0, 1), (30, .istore_n 2, 1), (31, .iconst 1, 1), (32, .istore_n 3, 1), (33, .iload_n 3, 1), (34, .iload_n 1, 1), (35, .if_icmp .gt 32, 3), (38, .iload_n 2, 1), (39, .aload_n 0, 1), (40, .getfield 54, 3), (43, .iload_n 3, 1), (44, .iaload, 1), (45, .aload_n 0, 1), (46, .getfield 11, 3), (49, .iconst 2, 1), (50, .iaload, 1), (51, .if_icmp .gt 7, 3), (54, .iconst 1, 1), (55, .goto 4, 3), (58, .iconst 0, 1), (59, .iadd, 1), (60, .istore_n 2, 1), (61, .iinc 3 1, 3), (64, .goto (-31), 3), (67, .iload_n 2, 1), (68, .ireturn, 1)], yX8_good, cX8_good, 4, (some .int), 7, 159)
def az_m_X8_again : az_M := (8, [(0, .aload_n 0, 1), (1, .bipush 80, 2), (3, .iconst (-1), 1), (4, .invokevirtual 158, 3), (7, .pop, 1), (8, .iconst 1, 1), (9, .istore_n 1, 1), (10, .iload_n 1, 1), (11, .bipush 40, 2), (13, .if_icmp .gt 58, 3), (16, .iconst 1, 1), (17, .istore_n 2, 1), (18, .iconst 1, 1), (19, .istore_n 3, 1), (20, .iload_n 3, 1), (21, .bipush 40, 2), (23, .if_icmp .gt 36, 3), (26, .iload_n 2, 1), (27, .ifCond .eq 24, 3), (30, .aload_n 0, 1), (31, .getfield 54, 3), (34, .iload_n 3, 1), (35, .iaload, 1), (36, .aload_n 0, 1), (37, .getfield 54, 3), (40, .iload_n 3, 1), (41, .iload_n 1, 1), (42, .iadd, 1), (43, .iaload, 1), (44, .if_icmp .ne 7, 3), (47, .iconst 1, 1), (48, .goto 4, 3), (51, .iconst 0, 1), (52, .istore_n 2, 1), (53, .iinc 3 1, 3), (56, .goto (-36), 3), (59, .iload_n 2, 1), (60, .ifCond .eq 5, 3), (63, .iload_n 1, 1), (64, .ireturn, 1), (65, .iinc 1 1, 3), (68, .goto (-58), 3), (71, .bipush (-9), 2), (73, .ireturn, 1)], yX8_again, cX8_again, 4, (some .int), 7, 159)
def az_m_X8_gains : az_M := (8, [(0, .aload_n 0, 1), (1, .iload_n 1, 1), (2, .invokevirtual 142, 3), (5, .ifCond .eq 12, 3), (8, .ldc 148, 2), (10, .aload_n 0, 1), (11, .iconst (-1), 1), (12, .invokevirtual 21, 3), (15, .isub, 1), (16, .ireturn, 1), (17, .aload_n 0, 1), (18, .iload_n 2, 1), (19, .bipush 60, 2), (21, .invokevirtual 155, 3), (24, .ifCond .eq 18, 3), (27, .ldc 148, 2), (29, .aload_n 0, 1), (30, .aload_n 0, 1), (31, .iload_n 2, 1), (32, .bipush 60, 2), (34, .invokevirtual 155, 3), (37, .invokevirtual 21, 3), (40, .isub, 1), (41, .ireturn, 1), (42, .aload_n 0, 1), (43, .iload_n 2, 1), (44, .iload_n 1, 1), (45, .invokevirtual 158, 3), (48, .ireturn, 1)], yX8_gains, cX8_gains, 3, (some .int), 7, 159)
def az_m_X8_begin : az_M := (8, [(0, .iconst 0, 1), (1, .istore_n 1, 1), (2, .iload_n 1, 1), (3, .iconst 4, 1), (4, .if_icmp .ge 16, 3), (7, .aload_n 0, 1), (8, .getfield 57, 3), (11, .iload_n 1, 1), (12, .iconst 0, 1), (13, .iastore, 1), (14, .iinc 1 1, 3), (17, .goto (-15), 3), (20, .return_, 1)], yX8_begin, cX8_begin, 2, none, 0, 0)
def az_m_X8_isNextPlan : az_M := (8, [(0, .aload_n 0, 1), (1, .getfield 11, 3), (4, .iconst 0, 1), (5, .iaload, 1), (6, .iconst 1, 1), (7, .isub, 1), (8, .istore_n 1, 1), (9, .iload_n 1, 1), (10, .ifCond .lt 43, 3), (13, .aload_n 0, 1), (14, .getfield 57, 3), (17, .iload_n 1, 1), (18, .iaload, 1), (19, .aload_n 0, 1), (20, .iload_n 1, 1), (21, .iconst 0, 1), (22, .invokevirtual 69, 3), (25, .if_icmp .ge 15, 3), (28, .aload_n 0, 1), (29, .getfield 57, 3), (32, .iload_n 1, 1), (33, .dup2, 1), (34, .iaload, 1), (35, .iconst 1, 1), (36, .iadd, 1), (37, .iastore, 1), (38, .iconst 1, 1), (39, .ireturn, 1), (40, .aload_n 0, 1), (41, .getfield 57, 3), (44, .iload_n 1, 1), (45, .iconst 0, 1), (46, .iastore, 1), (47, .iinc 1 (-1), 3), (50, .goto (-41), 3), (53, .iconst 0, 1), (54, .ireturn, 1)], yX8_isNextPlan, cX8_isNextPlan, 2, (some .boolean), 1, 22)
def az_m_X8_isAtRest : az_M := (8, [(0, .iconst 1, 1), (1, .istore_n 2, 1), (2, .iconst 0, 1), (3, .istore_n 3, 1), (4, .iload_n 3, 1), (5, .aload_n 0, 1), (6, .getfield 11, 3), (9, .iconst 0, 1), (10, .iaload, 1), (11, .if_icmp .ge 75, 3), (14, .iload_n 2, 1), (15, .ifCond .eq 63, 3), (18, .aload_n 0, 1), (19, .getfield 57, 3), (22, .iload_n 3, 1), (23, .iaload, 1), (24, .ifCond .eq 18, 3), (27, .aload_n 0, 1), (28, .iload_n 3, 1), (29, .iconst 5, 1), (30, .invokevirtual 69, 3), (33, .aload_n 0, 1), (34, .iload_n 3, 1), (35, .iload_n 1, 1), (36, .invokevirtual 136, 3), (39, .if_icmp .gt 39, 3), (42, .aload_n 0, 1), (43, .getfield 57, 3), (46, .iload_n 3, 1), (47, .iaload, 1), (48, .aload_n 0, 1), (49, .iload_n 3, 1), (50, .iconst 0, 1), (51, .invokevirtual 69, 3), (54, .if_icmp .eq 20, 3), (57, .aload_n 0, 1), (58, .iload_n 3, 1), (59, .iload_n 1, 1), (60, .iconst 1, 1), (61, .iadd, 1), (62, .invokevirtual 136, 3), (65, .aload_n 0, 1), (66, .iload_n 3, 1), (67, .iconst 5, 1), (68, .invokevirtual 69, 3), (71, .if_icmp .gt 7, 3), (74, .iconst 1, 1), (75, .goto 4, 3), (78, .iconst 0, 1), (79, .istore_n 2, 1), (80, .iinc 3 1, 3), (83, .goto (-79), 3), (86, .iload_n 2, 1), (87, .ireturn, 1)], yX8_isAtRest, cX8_isAtRest, 4, (some .boolean), 2, 44)
def az_m_X8_goThrough : az_M := (8, [(0, .aload_n 0, 1), (1, .iconst 0, 1), (2, .putfield 164, 3), (5, .aload_n 0, 1), (6, .iconst 0, 1), (7, .putfield 167, 3), (10, .aload_n 0, 1), (11, .invokevirtual 170, 3), (14, .iconst 0, 1), (15, .istore_n 1, 1), (16, .iconst 0, 1), (17, .istore_n 2, 1), (18, .iconst 0, 1), (19, .istore_n 3, 1), (20, .iload_n 3, 1), (21, .aload_n 0, 1), (22, .getfield 11, 3), (25, .iconst 0, 1), (26, .iaload, 1), (27, .if_icmp .ge 18, 3), (30, .iload_n 1, 1), (31, .aload_n 0, 1), (32, .getfield 57, 3), (35, .iload_n 3, 1), (36, .iaload, 1), (37, .iadd, 1), (38, .istore_n 1, 1), (39, .iinc 3 1, 3), (42, .goto (-22), 3), (45, .iconst 0, 1), (46, .istore_n 3, 1), (47, .iload_n 3, 1), (48, .aload_n 0, 1), (49, .getfield 11, 3), (52, .iconst 0, 1), (53, .iaload, 1), (54, .if_icmp .ge 46, 3), (57, .iload_n 2, 1), (58, .aload_n 0, 1), (59, .getfield 57, 3), (62, .iload_n 3, 1), (63, .iaload, 1), (64, .aload_n 0, 1), (65, .iload_n 3, 1), (66, .iload_n 1, 1), (67, .invokevirtual 136, 3), (70, .imul, 1), (71, .aload_n 0, 1), (72, .iload_n 3, 1), (73, .iconst 0, 1), (74, .invokevirtual 69, 3), (77, .aload_n 0, 1), (78, .getfield 57, 3), (81, .iload_n 3, 1), (82, .iaload, 1), (83, .isub, 1), (84, .aload_n 0, 1), (85, .iload_n 3, 1), (86, .iconst 5, 1), (87, .invokevirtual 69, 3), (90, .imul, 1), (91, .iadd, 1), (92, .iadd, 1), (93, .istore_n 2, 1), (94, .iinc 3 1, 3), (97, .goto (-50), 3), (100, .aload_n 0, 1), (101, .getfield 167, 3), (104, .ifCond .eq 11, 3), (107, .iload_n 2, 1), (108, .aload_n 0, 1), (109, .getfield 173, 3), (112, .if_icmp .le 13, 3), (115, .aload_n 0, 1), (116, .iload_n 2, 1), (117, .putfield 173, 3), (120, .aload_n 0, 1), (121, .iload_n 1, 1), (122, .putfield 176, 3), (125, .aload_n 0, 1), (126, .dup, 1), (127, .getfield 167, 3), (130, .iconst 1, 1), (131, .iadd, 1), (132, .putfield 167, 3), (135, .aload_n 0, 1), (136, .iload_n 1, 1), (137, .invokevirtual 179, 3), (140, .ifCond .eq 77, 3), (143, .aload_n 0, 1), (144, .getfield 164, 3), (147, .ifCond .ne 33, 3), (150, .aload_n 0, 1), (151, .iload_n 1, 1), (152, .putfield 182, 3), (155, .iconst 0, 1), (156, .istore_n 3, 1), (157, .iload_n 3, 1), (158, .iconst 4, 1), (159, .if_icmp .ge 21, 3), (162, .aload_n 0, 1), (163, .getfield 60, 3), (166, .iload_n 3, 1), (167, .aload_n 0, 1), (168, .getfield 57, 3), (171, .iload_n 3, 1), (172, .iaload, 1), (173, .iastore, 1), (174, .iinc 3 1, 3), (177, .goto (-20), 3), (180, .aload_n 0, 1), (181, .aload_n 0, 1), (182, .getfield 164, 3), (185, .ifCond .eq 11, 3), (188, .iload_n 2, 1), (189, .aload_n 0, 1), (190, .getfield 185, 3), (193, .if_icmp .le 7, 3), (196, .iload_n 2, 1), (197, .goto 7, 3), (200, .aload_n 0, 1), (201, .getfield 185, 3), (204, .putfield 185, 3), (207, .aload_n 0, 1), (208, .dup, 1), (209, .getfield 164, 3), (212, .iconst 1, 1), (213, .iadd, 1), (214, .putfield 164, 3), (217, .aload_n 0, 1), (218, .invokevirtual 188, 3), (221, .ifCond .ne (-207), 3), (224, .return_, 1)], yX8_goThrough, cX8_goThrough, 4, none, 3, 67)
def az_m_X8_rests : az_M := (8, [(0, .aload_n 0, 1), (1, .invokevirtual 192, 3), (4, .aload_n 0, 1), (5, .getfield 164, 3), (8, .ireturn, 1)], yX8_rests, cX8_rests, 1, (some .int), 4, 90)
def az_m_X8_rest : az_M := (8, [(0, .iload_n 1, 1), (1, .iconst (-1), 1), (2, .if_icmp .lt 13, 3), (5, .iload_n 1, 1), (6, .aload_n 0, 1), (7, .getfield 11, 3), (10, .iconst 0, 1), (11, .iaload, 1), (12, .if_icmp .lt 9, 3), (15, .aload_n 0, 1), (16, .iconst (-1), 1), (17, .invokevirtual 21, 3), (20, .ireturn, 1), (21, .aload_n 0, 1), (22, .invokevirtual 192, 3), (25, .aload_n 0, 1), (26, .getfield 164, 3), (29, .ifCond .ne 8, 3), (32, .bipush (-9), 2), (34, .goto 20, 3), (37, .iload_n 1, 1), (38, .ifCond .ge 10, 3), (41, .aload_n 0, 1), (42, .getfield 182, 3), (45, .goto 9, 3), (48, .aload_n 0, 1), (49, .getfield 60, 3), (52, .iload_n 1, 1), (53, .iaload, 1), (54, .ireturn, 1)], yX8_rest, cX8_rest, 2, (some .int), 4, 90)
def az_m_X8_best : az_M := (8, [(0, .iload_n 1, 1), (1, .ifCond .lt 8, 3), (4, .iload_n 1, 1), (5, .iconst 1, 1), (6, .if_icmp .le 13, 3), (9, .ldc 148, 2), (11, .aload_n 0, 1), (12, .bipush (-2), 2), (14, .invokevirtual 21, 3), (17, .isub, 1), (18, .ireturn, 1), (19, .aload_n 0, 1), (20, .invokevirtual 192, 3), (23, .iload_n 1, 1), (24, .ifCond .ne 10, 3), (27, .aload_n 0, 1), (28, .getfield 173, 3), (31, .goto 7, 3), (34, .aload_n 0, 1), (35, .getfield 176, 3), (38, .ireturn, 1)], yX8_best, cX8_best, 2, (some .int), 4, 90)
def az_m_X8_off : az_M := (8, [(0, .aload_n 0, 1), (1, .invokevirtual 192, 3), (4, .aload_n 0, 1), (5, .getfield 164, 3), (8, .ifCond .ne 8, 3), (11, .bipush (-9), 2), (13, .goto 12, 3), (16, .aload_n 0, 1), (17, .getfield 173, 3), (20, .aload_n 0, 1), (21, .getfield 185, 3), (24, .isub, 1), (25, .ireturn, 1)], yX8_off, cX8_off, 1, (some .int), 4, 90)
def az_m_X8_pennies : az_M := (8, [(0, .aload_n 0, 1), (1, .getfield 11, 3), (4, .iconst 5, 1), (5, .iaload, 1), (6, .istore_n 1, 1), (7, .bipush (-9), 2), (9, .istore_n 2, 1), (10, .iconst 0, 1), (11, .istore_n 3, 1), (12, .iconst 0, 1), (13, .istore 4, 2), (15, .iload 4, 2), (17, .bipush 10, 2), (19, .if_icmp .ge 50, 3), (22, .aload_n 0, 1), (23, .getfield 11, 3), (26, .iconst 5, 1), (27, .iload 4, 2), (29, .iastore, 1), (30, .aload_n 0, 1), (31, .invokevirtual 192, 3), (34, .aload_n 0, 1), (35, .getfield 164, 3), (38, .ifCond .le 25, 3), (41, .iload_n 2, 1), (42, .bipush (-9), 2), (44, .if_icmp .eq 11, 3), (47, .aload_n 0, 1), (48, .getfield 185, 3), (51, .iload_n 3, 1), (52, .if_icmp .le 11, 3), (55, .iload 4, 2), (57, .istore_n 2, 1), (58, .aload_n 0, 1), (59, .getfield 185, 3), (62, .istore_n 3, 1), (63, .iinc 4 1, 3), (66, .goto (-51), 3), (69, .aload_n 0, 1), (70, .getfield 11, 3), (73, .iconst 5, 1), (74, .iload_n 1, 1), (75, .iastore, 1), (76, .iload_n 2, 1), (77, .ireturn, 1)], yX8_pennies, cX8_pennies, 5, (some .int), 4, 90)
def az_m_X8_chairs : az_M := (8, [(0, .aload_n 0, 1), (1, .getfield 11, 3), (4, .iconst 2, 1), (5, .iaload, 1), (6, .istore_n 1, 1), (7, .bipush (-9), 2), (9, .istore_n 2, 1), (10, .iconst 0, 1), (11, .istore_n 3, 1), (12, .iconst 0, 1), (13, .istore 4, 2), (15, .iload 4, 2), (17, .bipush 60, 2), (19, .if_icmp .gt 50, 3), (22, .aload_n 0, 1), (23, .getfield 11, 3), (26, .iconst 2, 1), (27, .iload 4, 2), (29, .iastore, 1), (30, .aload_n 0, 1), (31, .invokevirtual 192, 3), (34, .aload_n 0, 1), (35, .getfield 164, 3), (38, .ifCond .le 25, 3), (41, .iload_n 2, 1), (42, .bipush (-9), 2), (44, .if_icmp .eq 11, 3), (47, .aload_n 0, 1), (48, .getfield 182, 3), (51, .iload_n 3, 1), (52, .if_icmp .le 11, 3), (55, .iload 4, 2), (57, .istore_n 2, 1), (58, .aload_n 0, 1), (59, .getfield 182, 3), (62, .istore_n 3, 1), (63, .iinc 4 1, 3), (66, .goto (-51), 3), (69, .aload_n 0, 1), (70, .getfield 11, 3), (73, .iconst 2, 1), (74, .iload_n 1, 1), (75, .iastore, 1), (76, .iload_n 2, 1), (77, .ireturn, 1)], yX8_chairs, cX8_chairs, 5, (some .int), 4, 90)
def az_m_X8_sees : az_M := (8, [(0, .iload_n 1, 1), (1, .iconst 1, 1), (2, .if_icmp .lt 16, 3), (5, .iload_n 2, 1), (6, .ifCond .lt 12, 3), (9, .iload_n 3, 1), (10, .ifCond .lt 8, 3), (13, .iload 4, 2), (15, .ifCond .ge 13, 3), (18, .ldc 148, 2), (20, .aload_n 0, 1), (21, .bipush (-4), 2), (23, .invokevirtual 21, 3), (26, .isub, 1), (27, .ireturn, 1), (28, .iload_n 1, 1), (29, .bipush 60, 2), (31, .if_icmp .gt 32, 3), (34, .iload_n 2, 1), (35, .bipush 9, 2), (37, .if_icmp .gt 26, 3), (40, .iload_n 3, 1), (41, .bipush 9, 2), (43, .if_icmp .gt 20, 3), (46, .iload 4, 2), (48, .bipush 9, 2), (50, .if_icmp .gt 13, 3), (53, .aload_n 0, 1), (54, .getfield 11, 3), (57, .iconst 0, 1), (58, .iaload, 1), (59, .iconst 4, 1), (60, .if_icmp .ne 13, 3), (63, .ldc 148, 2), (65, .aload_n 0, 1), (66, .bipush (-6), 2), (68, .invokevirtual 21, 3), (71, .isub, 1), (72, .ireturn, 1), (73, .aload_n 0, 1), (74, .getfield 11, 3), (77, .aload_n 0, 1), (78, .getfield 63, 3), (81, .invokestatic 17, 3), (84, .bipush 10, 2), (86, .bipush 6, 2), (88, .aload_n 0, 1), (89, .getfield 11, 3), (92, .iconst 0, 1), (93, .iaload, 1), (94, .imul, 1), (95, .iadd, 1), (96, .istore 5, 2), (98, .aload_n 0, 1), (99, .getfield 11, 3), (102, .iload 5, 2), (104, .iconst 1, 1), (105, .iastore, 1), (106, .aload_n 0, 1), (107, .getfield 11, 3), (110, .iload 5, 2), (112, .iconst 1, 1), (113, .iadd, 1), (114, .iconst 5, 1), (115, .iastore, 1), (116, .aload_n 0, 1), (117, .getfield 11, 3), (120, .iload 5, 2), (122, .iconst 2, 1), (123, .iadd, 1), (124, .iconst 0, 1), (125, .iastore, 1), (126, .aload_n 0, 1), (127, .getfield 11, 3), (130, .iload 5, 2), (132, .iconst 3, 1), (133, .iadd, 1), (134, .iload_n 2, 1), (135, .iastore, 1), (136, .aload_n 0, 1), (137, .getfield 11, 3), (140, .iload 5, 2), (142, .iconst 4, 1), (143, .iadd, 1), (144, .iload_n 3, 1), (145, .iastore, 1), (146, .aload_n 0, 1), (147, .getfield 11, 3), (150, .iload 5, 2), (152, .iconst 5, 1), (153, .iadd, 1), (154, .iload 4, 2), (156, .iastore, 1), (157, .aload_n 0, 1), (158, .getfield 11, 3), (161, .iconst 0, 1), (162, .dup2, 1), (163, .iaload, 1), (164, .iconst 1, 1), (165, .iadd, 1), (166, .iastore, 1), (167, .aload_n 0, 1), (168, .iload_n 1, 1), (169, .aload_n 0, 1), (170, .getfield 11, 3), (173, .iconst 0, 1), (174, .iaload, 1), (175, .iconst 1, 1), (176, .isub, 1), (177, .invokevirtual 158, 3), (180, .istore 6, 2), (182, .aload_n 0, 1), (183, .getfield 63, 3), (186, .aload_n 0, 1), (187, .getfield 11, 3), (190, .invokestatic 17, 3), (193, .iload 6, 2), (195, .ireturn, 1)], yX8_sees, cX8_sees, 7, (some .int), 7, 159)
def az_m_X8_which : az_M := (8, [(0, .aload_n 0, 1), (1, .iload_n 1, 1), (2, .bipush 60, 2), (4, .invokevirtual 155, 3), (7, .ifCond .eq 15, 3), (10, .aload_n 0, 1), (11, .aload_n 0, 1), (12, .iload_n 1, 1), (13, .bipush 60, 2), (15, .invokevirtual 155, 3), (18, .invokevirtual 21, 3), (21, .ireturn, 1), (22, .bipush (-9), 2), (24, .istore_n 2, 1), (25, .iconst 0, 1), (26, .istore_n 3, 1), (27, .iconst 0, 1), (28, .istore 4, 2), (30, .iload 4, 2), (32, .bipush 6, 2), (34, .if_icmp .ge 146, 3), (37, .iconst 1, 1), (38, .istore 5, 2), (40, .iload 5, 2), (42, .bipush 7, 2), (44, .if_icmp .ge 130, 3), (47, .aload_n 0, 1), (48, .getfield 11, 3), (51, .aload_n 0, 1), (52, .getfield 63, 3), (55, .invokestatic 17, 3), (58, .iconst 0, 1), (59, .istore 6, 2), (61, .iconst 0, 1), (62, .istore 7, 2), (64, .iload 7, 2), (66, .iload_n 1, 1), (67, .if_icmp .ge 66, 3), (70, .aload_n 0, 1), (71, .iload 4, 2), (73, .iload 5, 2), (75, .invokevirtual 126, 3), (78, .aload_n 0, 1), (79, .getfield 11, 3), (82, .iconst 2, 1), (83, .iaload, 1), (84, .if_icmp .gt 7, 3), (87, .iconst 1, 1), (88, .goto 4, 3), (91, .iconst 0, 1), (92, .istore 8, 2), (94, .iload 6, 2), (96, .aload_n 0, 1), (97, .invokevirtual 145, 3), (100, .aload_n 0, 1), (101, .getfield 11, 3), (104, .iconst 2, 1), (105, .iaload, 1), (106, .if_icmp .gt 7, 3), (109, .iconst 1, 1), (110, .goto 4, 3), (113, .iconst 0, 1), (114, .iload 8, 2), (116, .if_icmp .ne 7, 3), (119, .iconst 1, 1), (120, .goto 4, 3), (123, .iconst 0, 1), (124, .iadd, 1), (125, .istore 6, 2), (127, .iinc 7 1, 3), (130, .goto (-66), 3), (133, .aload_n 0, 1), (134, .getfield 63, 3), (137, .aload_n 0, 1), (138, .getfield 11, 3), (141, .invokestatic 17, 3), (144, .iload_n 2, 1), (145, .bipush (-9), 2), (147, .if_icmp .eq 9, 3), (150, .iload 6, 2), (152, .iload_n 3, 1), (153, .if_icmp .le 15, 3), (156, .bipush 10, 2), (158, .iload 4, 2), (160, .imul, 1), (161, .iload 5, 2), (163, .iadd, 1), (164, .istore_n 2, 1), (165, .iload 6, 2), (167, .istore_n 3, 1), (168, .iinc 5 1, 3), (171, .goto (-131), 3), (174, .iinc 4 1, 3), (177, .goto (-147), 3), (180, .iload_n 2, 1), (181, .ireturn, 1)], yX8_which, cX8_which, 9, (some .int), 6, 134)
def az_m_X8_longer : az_M := (8, [(0, .aload_n 0, 1), (1, .iload_n 1, 1), (2, .bipush 60, 2), (4, .invokevirtual 155, 3), (7, .ifCond .eq 15, 3), (10, .aload_n 0, 1), (11, .aload_n 0, 1), (12, .iload_n 1, 1), (13, .bipush 60, 2), (15, .invokevirtual 155, 3), (18, .invokevirtual 21, 3), (21, .ireturn, 1), (22, .aload_n 0, 1), (23, .getfield 11, 3), (26, .aload_n 0, 1), (27, .getfield 63, 3), (30, .invokestatic 17, 3), (33, .iconst 0, 1), (34, .istore_n 2, 1), (35, .iload_n 2, 1), (36, .aload_n 0, 1), (37, .getfield 11, 3), (40, .iconst 1, 1), (41, .iaload, 1), (42, .if_icmp .ge 42, 3), (45, .aload_n 0, 1), (46, .getfield 11, 3), (49, .bipush 40, 2), (51, .iconst 3, 1), (52, .iload_n 2, 1), (53, .imul, 1), (54, .iadd, 1), (55, .iconst 1, 1), (56, .iadd, 1), (57, .bipush 6, 2), (59, .aload_n 0, 1), (60, .getfield 11, 3), (63, .bipush 40, 2), (65, .iconst 3, 1), (66, .iload_n 2, 1), (67, .imul, 1), (68, .iadd, 1), (69, .iconst 1, 1), (70, .iadd, 1), (71, .iaload, 1), (72, .iconst 1, 1), (73, .iadd, 1), (74, .invokestatic 152, 3), (77, .iastore, 1), (78, .iinc 2 1, 3), (81, .goto (-46), 3), (84, .aload_n 0, 1), (85, .iload_n 1, 1), (86, .iconst (-1), 1), (87, .invokevirtual 158, 3), (90, .pop, 1), (91, .aload_n 0, 1), (92, .getfield 63, 3), (95, .aload_n 0, 1), (96, .getfield 11, 3), (99, .invokestatic 17, 3), (102, .aload_n 0, 1), (103, .iload_n 1, 1), (104, .invokevirtual 161, 3), (107, .ireturn, 1)], yX8_longer, cX8_longer, 3, (some .int), 7, 159)
def az_m_X8_seeds : az_M := (8, [(0, .aload_n 0, 1), (1, .iload_n 1, 1), (2, .bipush 20, 2), (4, .invokevirtual 155, 3), (7, .ifCond .eq 15, 3), (10, .aload_n 0, 1), (11, .aload_n 0, 1), (12, .iload_n 1, 1), (13, .bipush 20, 2), (15, .invokevirtual 155, 3), (18, .invokevirtual 21, 3), (21, .ireturn, 1), (22, .aload_n 0, 1), (23, .getfield 11, 3), (26, .aload_n 0, 1), (27, .getfield 63, 3), (30, .invokestatic 17, 3), (33, .iload_n 2, 1), (34, .istore_n 3, 1), (35, .iconst 0, 1), (36, .istore 4, 2), (38, .iconst 0, 1), (39, .istore 5, 2), (41, .iload 5, 2), (43, .iload_n 1, 1), (44, .if_icmp .ge 71, 3), (47, .iconst 0, 1), (48, .istore 6, 2), (50, .iload 6, 2), (52, .aload_n 0, 1), (53, .getfield 11, 3), (56, .iconst 4, 1), (57, .iaload, 1), (58, .if_icmp .ge 42, 3), (61, .iload_n 3, 1), (62, .ldc 195, 2), (64, .imul, 1), (65, .ldc 196, 2), (67, .iadd, 1), (68, .istore_n 3, 1), (69, .aload_n 0, 1), (70, .getfield 11, 3), (73, .bipush 60, 2), (75, .iload 6, 2), (77, .iadd, 1), (78, .iload_n 3, 1), (79, .ldc 197, 2), (81, .iand, 1), (82, .sipush 256, 3), (85, .idiv, 1), (86, .aload_n 0, 1), (87, .invokevirtual 118, 3), (90, .iconst 1, 1), (91, .iadd, 1), (92, .irem, 1), (93, .iastore, 1), (94, .iinc 6 1, 3), (97, .goto (-47), 3), (100, .iload 4, 2), (102, .aload_n 0, 1), (103, .invokevirtual 139, 3), (106, .iadd, 1), (107, .istore 4, 2), (109, .iinc 5 1, 3), (112, .goto (-71), 3), (115, .aload_n 0, 1), (116, .getfield 63, 3), (119, .aload_n 0, 1), (120, .getfield 11, 3), (123, .invokestatic 17, 3), (126, .iload 4, 2), (128, .ireturn, 1)], yX8_seeds, cX8_seeds, 7, (some .int), 5, 112)
def az_m_X8_row : az_M := (8, [(0, .iload_n 1, 1), (1, .ifCond .ge 10, 3), (4, .aload_n 0, 1), (5, .bipush (-4), 2), (7, .invokevirtual 21, 3), (10, .ireturn, 1), (11, .iload_n 1, 1), (12, .bipush 99, 2), (14, .if_icmp .gt 12, 3), (17, .aload_n 0, 1), (18, .getfield 198, 3), (21, .bipush 12, 2), (23, .if_icmp .ne 10, 3), (26, .aload_n 0, 1), (27, .bipush (-6), 2), (29, .invokevirtual 21, 3), (32, .ireturn, 1), (33, .aload_n 0, 1), (34, .getfield 66, 3), (37, .aload_n 0, 1), (38, .getfield 198, 3), (41, .iload_n 1, 1), (42, .iastore, 1), (43, .aload_n 0, 1), (44, .dup, 1), (45, .getfield 198, 3), (48, .iconst 1, 1), (49, .iadd, 1), (50, .putfield 198, 3), (53, .aload_n 0, 1), (54, .getfield 198, 3), (57, .ireturn, 1)], yX8_row, cX8_row, 2, (some .int), 1, 21)
def az_m_X8_judge : az_M := (8, [(0, .aload_n 0, 1), (1, .getfield 198, 3), (4, .istore_n 1, 1), (5, .aload_n 0, 1), (6, .iconst 0, 1), (7, .putfield 198, 3), (10, .aload_n 0, 1), (11, .iload_n 1, 1), (12, .iconst (-1), 1), (13, .invokevirtual 158, 3), (16, .pop, 1), (17, .iconst 0, 1), (18, .istore_n 2, 1), (19, .iload_n 2, 1), (20, .iload_n 1, 1), (21, .if_icmp .ge 28, 3), (24, .aload_n 0, 1), (25, .getfield 66, 3), (28, .iload_n 2, 1), (29, .iaload, 1), (30, .aload_n 0, 1), (31, .getfield 54, 3), (34, .iload_n 2, 1), (35, .iconst 1, 1), (36, .iadd, 1), (37, .iaload, 1), (38, .if_icmp .eq 5, 3), (41, .iload_n 2, 1), (42, .ireturn, 1), (43, .iinc 2 1, 3), (46, .goto (-27), 3), (49, .bipush (-9), 2), (51, .ireturn, 1)], yX8_judge, cX8_judge, 3, (some .int), 7, 159)
def az_m_X8_count : az_M := (8, [(0, .iload_n 1, 1), (1, .tableswitch 108 0 8 #[51, 58, 65, 70, 77, 84, 91, 98, 103], 51), (52, .aload_n 0, 1), (53, .getfield 11, 3), (56, .iconst 0, 1), (57, .iaload, 1), (58, .ireturn, 1), (59, .aload_n 0, 1), (60, .getfield 11, 3), (63, .iconst 1, 1), (64, .iaload, 1), (65, .ireturn, 1), (66, .aload_n 0, 1), (67, .invokevirtual 118, 3), (70, .ireturn, 1), (71, .aload_n 0, 1), (72, .getfield 11, 3), (75, .iconst 2, 1), (76, .iaload, 1), (77, .ireturn, 1), (78, .aload_n 0, 1), (79, .getfield 11, 3), (82, .iconst 3, 1), (83, .iaload, 1), (84, .ireturn, 1), (85, .aload_n 0, 1), (86, .getfield 11, 3), (89, .iconst 4, 1), (90, .iaload, 1), (91, .ireturn, 1), (92, .aload_n 0, 1), (93, .getfield 11, 3), (96, .iconst 5, 1), (97, .iaload, 1), (98, .ireturn, 1), (99, .aload_n 0, 1), (100, .getfield 198, 3), (103, .ireturn, 1), (104, .aload_n 0, 1), (105, .getfield 73, 3), (108, .ireturn, 1), (109, .iload_n 1, 1), (110, .bipush 11, 2), (112, .if_icmp .lt 21, 3), (115, .iload_n 1, 1), (116, .bipush 16, 2), (118, .if_icmp .gt 15, 3), (121, .aload_n 0, 1), (122, .getfield 1, 3), (125, .iload_n 1, 1), (126, .bipush 10, 2), (128, .isub, 1), (129, .iaload, 1), (130, .goto 5, 3), (133, .bipush (-9), 2), (135, .ireturn, 1)], yX8_count, cX8_count, 2, (some .int), 2, 44)
def az_m_J0_length_8abf5 : az_M := (9, [(0, .aload_n 0, 1), (1, .getfield 9, 3), (4, .arraylength, 1), (5, .aload_n 0, 1), (6, .invokevirtual 335, 3), (9, .ishr, 1), (10, .ireturn, 1)], yJ0_length_8abf5, cJ0_length_8abf5, 1, (some .int), 1, 20)
def az_m_J0_isEmpty_aae02 : az_M := (9, [(0, .aload_n 0, 1), (1, .getfield 9, 3), (4, .arraylength, 1), (5, .ifCond .ne 7, 3), (8, .iconst 1, 1), (9, .goto 4, 3), (12, .iconst 0, 1), (13, .ireturn, 1)], yJ0_isEmpty_aae02, cJ0_isEmpty_aae02, 1, (some .boolean), 0, 0)
def az_m_J0_charAt_5068e : az_M := (9, [(0, .aload_n 0, 1), (1, .invokevirtual 492, 3), (4, .ifCond .eq 12, 3), (7, .aload_n 0, 1), (8, .getfield 9, 3), (11, .iload_n 1, 1), (12, .invokestatic 495, 3), (15, .ireturn, 1), (16, .aload_n 0, 1), (17, .getfield 9, 3), (20, .iload_n 1, 1), (21, .invokestatic 498, 3), (24, .ireturn, 1)], yJ0_charAt_5068e, cJ0_charAt_5068e, 2, (some .char), 3, 64)
def az_m_J0_indexOf_0f7a4 : az_M := (9, [(0, .aload_n 0, 1), (1, .iload_n 1, 1), (2, .iconst 0, 1), (3, .invokevirtual 633, 3), (6, .ireturn, 1)], yJ0_indexOf_0f7a4, cJ0_indexOf_0f7a4, 2, (some .int), 3, 70)
def az_m_J0_indexOf_7cf53 : az_M := (9, [(0, .aload_n 0, 1), (1, .invokevirtual 492, 3), (4, .ifCond .eq 19, 3), (7, .aload_n 0, 1), (8, .getfield 9, 3), (11, .iload_n 1, 1), (12, .iload_n 2, 1), (13, .aload_n 0, 1), (14, .invokevirtual 505, 3), (17, .invokestatic 637, 3), (20, .goto 16, 3), (23, .aload_n 0, 1), (24, .getfield 9, 3), (27, .iload_n 1, 1), (28, .iload_n 2, 1), (29, .aload_n 0, 1), (30, .invokevirtual 505, 3), (33, .invokestatic 640, 3), (36, .ireturn, 1)], yJ0_indexOf_7cf53, cJ0_indexOf_7cf53, 3, (some .int), 2, 48)
def az_m_J0_coder_7d493 : az_M := (9, [(0, .getstatic 38, 3), (3, .ifCond .eq 10, 3), (6, .aload_n 0, 1), (7, .getfield 15, 3), (10, .goto 4, 3), (13, .iconst 1, 1), (14, .ireturn, 1)], yJ0_coder_7d493, cJ0_coder_7d493, 1, (some .byte), 0, 0)
def az_m_J0_isLatin1_aae02 : az_M := (9, [(0, .getstatic 38, 3), (3, .ifCond .eq 14, 3), (6, .aload_n 0, 1), (7, .getfield 15, 3), (10, .ifCond .ne 7, 3), (13, .iconst 1, 1), (14, .goto 4, 3), (17, .iconst 0, 1), (18, .ireturn, 1)], yJ0_isLatin1_aae02, cJ0_isLatin1_aae02, 1, (some .boolean), 0, 0)
def az_m_J1_charAt_3b067 : az_M := (10, [(0, .iload_n 1, 1), (1, .aload_n 0, 1), (2, .arraylength, 1), (3, .invokestatic 9, 3), (6, .aload_n 0, 1), (7, .iload_n 1, 1), (8, .baload, 1), (9, .sipush 255, 3), (12, .iand, 1), (13, .i2c, 1), (14, .ireturn, 1)], yJ1_charAt_3b067, cJ1_charAt_3b067, 2, (some .char), 2, 43)
def az_m_J1_canEncode_9a6ad : az_M := (10, [(0, .iload_n 0, 1), (1, .ifCond .lt 14, 3), (4, .iload_n 0, 1), (5, .sipush 255, 3), (8, .if_icmp .gt 7, 3), (11, .iconst 1, 1), (12, .goto 4, 3), (15, .iconst 0, 1), (16, .ireturn, 1)], yJ1_canEncode_9a6ad, cJ1_canEncode_9a6ad, 1, (some .boolean), 0, 0)
def az_m_J1_indexOf_4cfef : az_M := (10, [(0, .iload_n 1, 1), (1, .invokestatic 88, 3), (4, .ifCond .ne 5, 3), (7, .iconst (-1), 1), (8, .ireturn, 1), (9, .iload_n 2, 1), (10, .iconst 0, 1), (11, .invokestatic 92, 3), (14, .istore_n 2, 1), (15, .iload_n 3, 1), (16, .aload_n 0, 1), (17, .arraylength, 1), (18, .invokestatic 38, 3), (21, .istore_n 3, 1), (22, .iload_n 2, 1), (23, .iload_n 3, 1), (24, .if_icmp .lt 5, 3), (27, .iconst (-1), 1), (28, .ireturn, 1), (29, .aload_n 0, 1), (30, .iload_n 1, 1), (31, .iload_n 2, 1), (32, .iload_n 3, 1), (33, .invokestatic 95, 3), (36, .ireturn, 1)], yJ1_indexOf_4cfef, cJ1_indexOf_4cfef, 4, (some .int), 1, 25)
def az_m_J1_indexOfChar_4cfef : az_M := (10, [(0, .iload_n 1, 1), (1, .i2b, 1), (2, .istore 4, 2), (4, .iload_n 2, 1), (5, .istore 5, 2), (7, .iload 5, 2), (9, .iload_n 3, 1), (10, .if_icmp .ge 21, 3), (13, .aload_n 0, 1), (14, .iload 5, 2), (16, .baload, 1), (17, .iload 4, 2), (19, .if_icmp .ne 6, 3), (22, .iload 5, 2), (24, .ireturn, 1), (25, .iinc 5 1, 3), (28, .goto (-21), 3), (31, .iconst (-1), 1), (32, .ireturn, 1)], yJ1_indexOfChar_4cfef, cJ1_indexOfChar_4cfef, 6, (some .int), 0, 0)
def az_m_J0_checkIndex_df160 : az_M := (9, [(0, .iload_n 0, 1), (1, .iload_n 1, 1), (2, .getstatic 1053, 3), (5, .invokestatic 1059, 3), (8, .pop, 1), (9, .return_, 1)], yJ0_checkIndex_df160, cJ0_checkIndex_df160, 2, none, 1, 22)
def az_m_J3_checkIndex_8e157 : az_M := (12, [(0, .iload_n 0, 1), (1, .ifCond .lt 8, 3), (4, .iload_n 0, 1), (5, .iload_n 1, 1), (6, .if_icmp .lt 10, 3), (9, .aload_n 2, 1), (10, .iload_n 0, 1), (11, .iload_n 1, 1), (12, .invokestatic 95, 3), (15, .athrow, 1), (16, .iload_n 0, 1), (17, .ireturn, 1)], yJ3_checkIndex_8e157, cJ3_checkIndex_8e157, 3, (some .int), 0, 0)
def az_m_L_law : az_M := (15, [(0, .new 7, 3), (3, .dup, 1), (4, .invokespecial 9, 3), (7, .astore_n 1, 1), (8, .new 10, 3), (11, .dup, 1), (12, .invokespecial 12, 3), (15, .astore_n 2, 1), (16, .iconst 0, 1), (17, .istore_n 3, 1), (18, .iload_n 3, 1), (19, .aload_n 0, 1), (20, .arraylength, 1), (21, .iconst 5, 1), (22, .isub, 1), (23, .if_icmp .gt 828, 3), (26, .aload_n 0, 1), (27, .iload_n 3, 1), (28, .iaload, 1), (29, .bipush 31, 2), (31, .iand, 1), (32, .tableswitch 813 0 30 #[140, 163, 176, 209, 242, 265, 288, 301, 314, 337, 360, 383, 406, 429, 452, 465, 498, 511, 534, 557, 570, 583, 596, 649, 672, 695, 728, 751, 764, 777, 790], 140), (172, .aload_n 1, 1), (173, .aload_n 0, 1), (174, .iload_n 3, 1), (175, .iconst 1, 1), (176, .iadd, 1), (177, .iaload, 1), (178, .invokevirtual 13, 3), (181, .aload_n 2, 1), (182, .aload_n 0, 1), (183, .iload_n 3, 1), (184, .iconst 1, 1), (185, .iadd, 1), (186, .iaload, 1), (187, .invokevirtual 17, 3), (190, .if_icmp .eq 655, 3), (193, .iconst 0, 1), (194, .ireturn, 1), (195, .aload_n 1, 1), (196, .invokevirtual 18, 3), (199, .aload_n 2, 1), (200, .invokevirtual 22, 3), (203, .if_icmp .eq 642, 3), (206, .iconst 0, 1), (207, .ireturn, 1), (208, .aload_n 1, 1), (209, .aload_n 0, 1), (210, .iload_n 3, 1), (211, .iconst 1, 1), (212, .iadd, 1), (213, .iaload, 1), (214, .aload_n 0, 1), (215, .iload_n 3, 1), (216, .iconst 2, 1), (217, .iadd, 1), (218, .iaload, 1), (219, .invokevirtual 23, 3), (222, .aload_n 2, 1), (223, .aload_n 0, 1), (224, .iload_n 3, 1), (225, .iconst 1, 1), (226, .iadd, 1), (227, .iaload, 1), (228, .aload_n 0, 1), (229, .iload_n 3, 1), (230, .iconst 2, 1), (231, .iadd, 1), (232, .iaload, 1), (233, .invokevirtual 27, 3), (236, .if_icmp .eq 609, 3), (239, .iconst 0, 1), (240, .ireturn, 1), (241, .aload_n 1, 1), (242, .aload_n 0, 1), (243, .iload_n 3, 1), (244, .iconst 1, 1), (245, .iadd, 1), (246, .iaload, 1), (247, .aload_n 0, 1), (248, .iload_n 3, 1), (249, .iconst 2, 1), (250, .iadd, 1), (251, .iaload, 1), (252, .invokevirtual 28, 3), (255, .aload_n 2, 1), (256, .aload_n 0, 1), (257, .iload_n 3, 1), (258, .iconst 1, 1), (259, .iadd, 1), (260, .iaload, 1), (261, .aload_n 0, 1), (262, .iload_n 3, 1), (263, .iconst 2, 1), (264, .iadd, 1), (265, .iaload, 1), (266, .invokevirtual 31, 3), (269, .if_icmp .eq 576, 3), (272, .iconst 0, 1), (273, .ireturn, 1), (274, .aload_n 1, 1), (275, .aload_n 0, 1), (276, .iload_n 3, 1), (277, .iconst 1, 1), (278, .iadd, 1), (279, .iaload, 1), (280, .invokevirtual 32, 3), (283, .aload_n 2, 1), (284, .aload_n 0, 1), (285, .iload_n 3, 1), (286, .iconst 1, 1), (287, .iadd, 1), (288, .iaload, 1), (289, .invokevirtual 35, 3), (292, .if_icmp .eq 553, 3), (295, .iconst 0, 1), (296, .ireturn, 1), (297, .aload_n 1, 1), (298, .aload_n 0, 1), (299, .iload_n 3, 1), (300, .iconst 1, 1), (301, .iadd, 1), (302, .iaload, 1), (303, .invokevirtual 36, 3), (306, .aload_n 2, 1), (307, .aload_n 0, 1), (308, .iload_n 3, 1), (309, .iconst 1, 1), (310, .iadd, 1), (311, .iaload, 1), (312, .invokevirtual 39, 3), (315, .if_icmp .eq 530, 3), (318, .iconst 0, 1), (319, .ireturn, 1), (320, .aload_n 1, 1), (321, .invokevirtual 40, 3), (324, .aload_n 2, 1), (325, .invokevirtual 43, 3), (328, .if_icmp .eq 517, 3), (331, .iconst 0, 1), (332, .ireturn, 1), (333, .aload_n 1, 1), (334, .invokevirtual 44, 3), (337, .aload_n 2, 1), (338, .invokevirtual 47, 3), (341, .if_icmp .eq 504, 3), (344, .iconst 0, 1), (345, .ireturn, 1), (346, .aload_n 1, 1), (347, .aload_n 0, 1), (348, .iload_n 3, 1), (349, .iconst 1, 1), (350, .iadd, 1), (351, .iaload, 1), (352, .invokevirtual 48, 3), (355, .aload_n 2, 1), (356, .aload_n 0, 1), (357, .iload_n 3, 1), (358, .iconst 1, 1), (359, .iadd, 1), (360, .iaload, 1), (361, .invokevirtual 51, 3), (364, .if_icmp .eq 481, 3), (367, .iconst 0, 1), (368, .ireturn, 1), (369, .aload_n 1, 1), (370, .aload_n 0, 1), (371, .iload_n 3, 1), (372, .iconst 1, 1), (373, .iadd, 1), (374, .iaload, 1), (375, .invokevirtual 52, 3), (378, .aload_n 2, 1), (379, .aload_n 0, 1), (380, .iload_n 3, 1), (381, .iconst 1, 1), (382, .iadd, 1), (383, .iaload, 1), (384, .invokevirtual 55, 3), (387, .if_icmp .eq 458, 3), (390, .iconst 0, 1), (391, .ireturn, 1), (392, .aload_n 1, 1), (393, .aload_n 0, 1), (394, .iload_n 3, 1), (395, .iconst 1, 1), (396, .iadd, 1), (397, .iaload, 1), (398, .invokevirtual 56, 3), (401, .aload_n 2, 1), (402, .aload_n 0, 1), (403, .iload_n 3, 1), (404, .iconst 1, 1), (405, .iadd, 1), (406, .iaload, 1), (407, .invokevirtual 59, 3), (410, .if_icmp .eq 435, 3), (413, .iconst 0, 1), (414, .ireturn, 1), (415, .aload_n 1, 1), (416, .aload_n 0, 1), (417, .iload_n 3, 1), (418, .iconst 1, 1), (419, .iadd, 1), (420, .iaload, 1), (421, .invokevirtual 60, 3), (424, .aload_n 2, 1), (425, .aload_n 0, 1), (426, .iload_n 3, 1), (427, .iconst 1, 1), (428, .iadd, 1), (429, .iaload, 1), (430, .invokevirtual 63, 3), (433, .if_icmp .eq 412, 3), (436, .iconst 0, 1), (437, .ireturn, 1), (438, .aload_n 1, 1), (439, .aload_n 0, 1), (440, .iload_n 3, 1), (441, .iconst 1, 1), (442, .iadd, 1), (443, .iaload, 1), (444, .invokevirtual 64, 3), (447, .aload_n 2, 1), (448, .aload_n 0, 1), (449, .iload_n 3, 1), (450, .iconst 1, 1), (451, .iadd, 1), (452, .iaload, 1), (453, .invokevirtual 67, 3), (456, .if_icmp .eq 389, 3), (459, .iconst 0, 1), (460, .ireturn, 1), (461, .aload_n 1, 1), (462, .aload_n 0, 1), (463, .iload_n 3, 1), (464, .iconst 1, 1), (465, .iadd, 1), (466, .iaload, 1), (467, .invokevirtual 68, 3), (470, .aload_n 2, 1), (471, .aload_n 0, 1), (472, .iload_n 3, 1), (473, .iconst 1, 1), (474, .iadd, 1), (475, .iaload, 1), (476, .invokevirtual 71, 3), (479, .if_icmp .eq 366, 3), (482, .iconst 0, 1), (483, .ireturn, 1), (484, .aload_n 1, 1), (485, .invokevirtual 72, 3), (488, .aload_n 2, 1), (489, .invokevirtual 75, 3), (492, .if_icmp .eq 353, 3), (495, .iconst 0, 1), (496, .ireturn, 1), (497, .aload_n 1, 1), (498, .aload_n 0, 1), (499, .iload_n 3, 1), (500, .iconst 1, 1), (501, .iadd, 1), (502, .iaload, 1), (503, .aload_n 0, 1), (504, .iload_n 3, 1), (505, .iconst 2, 1), (506, .iadd, 1), (507, .iaload, 1), (508, .invokevirtual 76, 3), (511, .aload_n 2, 1), (512, .aload_n 0, 1), (513, .iload_n 3, 1), (514, .iconst 1, 1), (515, .iadd, 1), (516, .iaload, 1), (517, .aload_n 0, 1), (518, .iload_n 3, 1), (519, .iconst 2, 1), (520, .iadd, 1), (521, .iaload, 1), (522, .invokevirtual 79, 3), (525, .if_icmp .eq 320, 3), (528, .iconst 0, 1), (529, .ireturn, 1), (530, .aload_n 1, 1), (531, .invokevirtual 80, 3), (534, .aload_n 2, 1), (535, .invokevirtual 83, 3), (538, .if_icmp .eq 307, 3), (541, .iconst 0, 1), (542, .ireturn, 1), (543, .aload_n 1, 1), (544, .aload_n 0, 1), (545, .iload_n 3, 1), (546, .iconst 1, 1), (547, .iadd, 1), (548, .iaload, 1), (549, .invokevirtual 84, 3), (552, .aload_n 2, 1), (553, .aload_n 0, 1), (554, .iload_n 3, 1), (555, .iconst 1, 1), (556, .iadd, 1), (557, .iaload, 1), (558, .invokevirtual 87, 3), (561, .if_icmp .eq 284, 3), (564, .iconst 0, 1), (565, .ireturn, 1), (566, .aload_n 1, 1), (567, .aload_n 0, 1), (568, .iload_n 3, 1), (569, .iconst 1, 1), (570, .iadd, 1), (571, .iaload, 1), (572, .invokevirtual 88, 3), (575, .aload_n 2, 1), (576, .aload_n 0, 1), (577, .iload_n 3, 1), (578, .iconst 1, 1), (579, .iadd, 1), (580, .iaload, 1), (581, .invokevirtual 91, 3), (584, .if_icmp .eq 261, 3), (587, .iconst 0, 1), (588, .ireturn, 1), (589, .aload_n 1, 1), (590, .invokevirtual 92, 3), (593, .aload_n 2, 1), (594, .invokevirtual 95, 3), (597, .if_icmp .eq 248, 3), (600, .iconst 0, 1), (601, .ireturn, 1), (602, .aload_n 1, 1), (603, .invokevirtual 96, 3), (606, .aload_n 2, 1), (607, .invokevirtual 99, 3), (610, .if_icmp .eq 235, 3), (613, .iconst 0, 1), (614, .ireturn, 1), (615, .aload_n 1, 1), (616, .invokevirtual 100, 3), (619, .aload_n 2, 1), (620, .invokevirtual 103, 3), (623, .if_icmp .eq 222, 3), (626, .iconst 0, 1), (627, .ireturn, 1), (628, .aload_n 1, 1), (629, .aload_n 0, 1), (630, .iload_n 3, 1), (631, .iconst 1, 1), (632, .iadd, 1), (633, .iaload, 1), (634, .aload_n 0, 1), (635, .iload_n 3, 1), (636, .iconst 2, 1), (637, .iadd, 1), (638, .iaload, 1), (639, .aload_n 0, 1), (640, .iload_n 3, 1), (641, .iconst 3, 1), (642, .iadd, 1), (643, .iaload, 1), (644, .aload_n 0, 1), (645, .iload_n 3, 1), (646, .iconst 4, 1), (647, .iadd, 1), (648, .iaload, 1), (649, .invokevirtual 104, 3), (652, .aload_n 2, 1), (653, .aload_n 0, 1), (654, .iload_n 3, 1), (655, .iconst 1, 1), (656, .iadd, 1), (657, .iaload, 1), (658, .aload_n 0, 1), (659, .iload_n 3, 1), (660, .iconst 2, 1), (661, .iadd, 1), (662, .iaload, 1), (663, .aload_n 0, 1), (664, .iload_n 3, 1), (665, .iconst 3, 1), (666, .iadd, 1), (667, .iaload, 1), (668, .aload_n 0, 1), (669, .iload_n 3, 1), (670, .iconst 4, 1), (671, .iadd, 1), (672, .iaload, 1), (673, .invokevirtual 108, 3), (676, .if_icmp .eq 169, 3), (679, .iconst 0, 1), (680, .ireturn, 1), (681, .aload_n 1, 1), (682, .aload_n 0, 1), (683, .iload_n 3, 1), (684, .iconst 1, 1), (685, .iadd, 1), (686, .iaload, 1), (687, .invokevirtual 109, 3), (690, .aload_n 2, 1), (691, .aload_n 0, 1), (692, .iload_n 3, 1), (693, .iconst 1, 1), (694, .iadd, 1), (695, .iaload, 1), (696, .invokevirtual 112, 3), (699, .if_icmp .eq 146, 3), (702, .iconst 0, 1), (703, .ireturn, 1), (704, .aload_n 1, 1), (705, .aload_n 0, 1), (706, .iload_n 3, 1), (707, .iconst 1, 1), (708, .iadd, 1), (709, .iaload, 1), (710, .invokevirtual 113, 3), (713, .aload_n 2, 1), (714, .aload_n 0, 1), (715, .iload_n 3, 1), (716, .iconst 1, 1), (717, .iadd, 1), (718, .iaload, 1), (719, .invokevirtual 116, 3), (722, .if_icmp .eq 123, 3), (725, .iconst 0, 1), (726, .ireturn, 1), (727, .aload_n 1, 1), (728, .aload_n 0, 1), (729, .iload_n 3, 1), (730, .iconst 1, 1), (731, .iadd, 1), (732, .iaload, 1), (733, .aload_n 0, 1), (734, .iload_n 3, 1), (735, .iconst 2, 1), (736, .iadd, 1), (737, .iaload, 1), (738, .invokevirtual 117, 3), (741, .aload_n 2, 1), (742, .aload_n 0, 1), (743, .iload_n 3, 1), (744, .iconst 1, 1), (745, .iadd, 1), (746, .iaload, 1), (747, .aload_n 0, 1), (748, .iload_n 3, 1), (749, .iconst 2, 1), (750, .iadd, 1), (751, .iaload, 1), (752, .invokevirtual 120, 3), (755, .if_icmp .eq 90, 3), (758, .iconst 0, 1), (759, .ireturn, 1), (760, .aload_n 1, 1), (761, .aload_n 0, 1), (762, .iload_n 3, 1), (763, .iconst 1, 1), (764, .iadd, 1), (765, .iaload, 1), (766, .invokevirtual 121, 3), (769, .aload_n 2, 1), (770, .aload_n 0, 1), (771, .iload_n 3, 1), (772, .iconst 1, 1), (773, .iadd, 1), (774, .iaload, 1), (775, .invokevirtual 124, 3), (778, .if_icmp .eq 67, 3), (781, .iconst 0, 1), (782, .ireturn, 1), (783, .aload_n 1, 1), (784, .invokevirtual 125, 3), (787, .aload_n 2, 1), (788, .invokevirtual 128, 3), (791, .if_icmp .eq 54, 3), (794, .iconst 0, 1), (795, .ireturn, 1), (796, .aload_n 1, 1), (797, .invokevirtual 129, 3), (800, .aload_n 2, 1), (801, .invokevirtual 132, 3), (804, .if_icmp .eq 41, 3), (807, .iconst 0, 1), (808, .ireturn, 1), (809, .aload_n 1, 1), (810, .invokevirtual 133, 3), (813, .aload_n 2, 1), (814, .invokevirtual 136, 3), (817, .if_icmp .eq 28, 3), (820, .iconst 0, 1), (821, .ireturn, 1), (822, .aload_n 1, 1), (823, .aload_n 0, 1), (824, .iload_n 3, 1), (825, .iconst 1, 1), (826, .iadd, 1), (827, .iaload, 1), (828, .invokevirtual 137, 3), (831, .aload_n 2, 1), (832, .aload_n 0, 1), (833, .iload_n 3, 1), (834, .iconst 1, 1), (835, .iadd, 1), (836, .iaload, 1), (837, .invokevirtual 140, 3), (840, .if_icmp .eq 5, 3), (843, .iconst 0, 1), (844, .ireturn, 1), (845, .iinc 3 5, 3), (848, .goto (-830), 3), (851, .iconst 1, 1), (852, .ireturn, 1)], yL_law, cL_law, 4, (some .boolean), 9, 205)
def az_ml_0 : List (Nat × (Nat × az_M × Nat)) := [(37, (3, az_m_X7_put, 3)), (47, (3, az_m_X7_at, 2)), (51, (0, az_m_X0_hasPlan, 1)), (55, (0, az_m_X0_countWays, 1)), (61, (0, az_m_X0_greatestGain, 2)), (66, (0, az_m_X0_greatestWorth, 1))]
def az_ml_1 : List (Nat × (Nat × az_M × Nat)) := [(19, (3, az_m_X7_copyRow, 2)), (23, (3, az_m_X7_at, 2)), (27, (3, az_m_X7_put, 3))]
def az_ml_2 : List (Nat × (Nat × az_M × Nat)) := [(30, (0, az_m_X2_boxResting, 5)), (34, (1, az_m_X0_plans, 1)), (38, (1, az_m_X0_hasPlan, 1)), (43, (0, az_m_X2_offerFirst, 2)), (47, (1, az_m_X0_greatestWorth, 1)), (56, (0, az_m_X2_boxAll, 5)), (59, (0, az_m_X2_bestWorth, 4)), (63, (3, az_m_X7_at, 2)), (67, (1, az_m_X0_keepFirst, 2)), (70, (0, az_m_X2_isBoxBeforeFirst, 1)), (76, (3, az_m_X7_copyRow, 2)), (83, (1, az_m_X0_begin, 3)), (87, (0, az_m_X2_beginBand, 3)), (105, (1, az_m_X0_add, 6))]
def az_ml_3 : List (Nat × (Nat × az_M × Nat)) := [(25, (3, az_m_X7_copyRow, 2)), (29, (3, az_m_X7_put, 3)), (33, (3, az_m_X7_at, 2))]
def az_ml_4 : List (Nat × (Nat × az_M × Nat)) := [(34, (3, az_m_X7_copyRow, 2)), (38, (3, az_m_X7_put, 3)), (42, (3, az_m_X7_at, 2))]
def az_ml_5 : List (Nat × (Nat × az_M × Nat)) := [(19, (3, az_m_X7_put, 3)), (29, (0, az_m_X5_badPlace, 1)), (33, (0, az_m_X5_tellStatement, 3)), (37, (0, az_m_X5_formAt, 2)), (41, (0, az_m_J0_length_8abf5, 1)), (46, (0, az_m_J0_isEmpty_aae02, 1)), (50, (0, az_m_J0_charAt_5068e, 2)), (54, (0, az_m_X5_fits, 3)), (58, (0, az_m_X5_letterAt, 2)), (62, (0, az_m_X5_numberForm, 2)), (71, (0, az_m_X5_isDigit, 2)), (81, (0, az_m_X5_kindAt, 3)), (87, (0, az_m_X5_numberAt, 2)), (90, (1, az_m_X6_setChairs, 2)), (95, (1, az_m_X6_addWeek, 2)), (102, (0, az_m_X5_digitAt, 2)), (105, (1, az_m_X3_add, 3)), (111, (0, az_m_X5_tellSort, 3)), (114, (1, az_m_X6_mayFollow, 3)), (121, (1, az_m_X4_add, 7)), (126, (0, az_m_J0_indexOf_0f7a4, 2))]
def az_ml_6 : List (Nat × (Nat × az_M × Nat)) := [(52, (1, az_m_X4_copyFrom, 2)), (56, (1, az_m_X3_copyFrom, 2)), (59, (1, az_m_X1_copyFrom, 2)), (62, (1, az_m_X1_add, 2)), (66, (1, az_m_X3_has, 2)), (76, (0, az_m_X6_presentAgo, 2)), (80, (3, az_m_X7_quotient, 2)), (84, (1, az_m_X4_people, 1)), (93, (0, az_m_X6_meanPresent, 2)), (96, (0, az_m_X6_askRules, 1)), (99, (0, az_m_X6_askSorts, 1)), (106, (3, az_m_X7_at, 2)), (113, (0, az_m_X6_foretells, 3)), (116, (3, az_m_X7_put, 3)), (122, (0, az_m_X6_wantsToGo, 2)), (125, (0, az_m_X6_settle, 3)), (135, (1, az_m_X3_mostRight, 2)), (138, (3, az_m_X7_remainder, 2)), (141, (0, az_m_X6_isRight, 2)), (156, (0, az_m_X6_worthToOne, 2))]
def az_ml_7 : List (Nat × (Nat × az_M × Nat)) := [(57, (2, az_m_X7_outside, 3)), (64, (0, az_m_X7_refuse, 2)), (68, (1, az_m_X5_add, 2)), (71, (1, az_m_X6_copyFrom, 2)), (75, (1, az_m_X5_tellTo, 2)), (79, (1, az_m_X5_clear, 1)), (86, (1, az_m_X4_has, 2)), (95, (2, az_m_X7_at, 2)), (118, (1, az_m_X3_has, 2)), (128, (1, az_m_X6_foretells, 3)), (132, (1, az_m_X6_presentAgo, 2)), (138, (1, az_m_X6_goBy, 1)), (142, (1, az_m_X6_decide, 1)), (151, (0, az_m_X7_refuseWorth, 2)), (154, (1, az_m_X6_worthToAll, 1)), (157, (1, az_m_X6_worthToOne, 2)), (160, (0, az_m_X7_lookAhead, 3)), (164, (2, az_m_X7_quotient, 2)), (167, (0, az_m_X7_swingOf, 2)), (173, (0, az_m_X7_comesAgainAfter, 2)), (176, (0, az_m_X7_gainsInMind, 3)), (179, (1, az_m_X2_restingPlans, 4)), (183, (1, az_m_X2_findFirstResting, 4)), (187, (1, az_m_X2_presentOfFirst, 1)), (193, (1, az_m_X2_bestWorth, 4)), (196, (1, az_m_X2_findFirstBest, 4)), (200, (1, az_m_X2_bestRestingWorth, 4)), (205, (1, az_m_X4_add, 7)), (208, (0, az_m_X7_tallyRight, 2)), (212, (1, az_m_X6_drawMemory, 2)), (215, (2, az_m_X7_put, 3)), (223, (1, az_m_X4_people, 1)), (234, (1, az_m_X3_lengthen, 2)), (245, (1, az_m_X6_isRight, 2))]
def az_ml_8 : List (Nat × (Nat × az_M × Nat)) := [(17, (2, az_m_X8_move, 2)), (21, (0, az_m_X8_no, 2)), (69, (0, az_m_X8_of, 3)), (83, (0, az_m_X8_oneOf, 2)), (90, (0, az_m_X8_figures, 2)), (93, (0, az_m_X8_expect, 2)), (97, (0, az_m_X8_remember, 2)), (101, (0, az_m_X8_statement, 1)), (104, (0, az_m_X8_isAsItMustBe, 3)), (108, (0, az_m_X8_come, 1)), (111, (0, az_m_X8_read, 1)), (115, (0, az_m_X8_ago, 2)), (118, (0, az_m_X8_people, 1)), (126, (0, az_m_X8_foretold, 3)), (129, (0, az_m_X8_isRoom, 2)), (133, (0, az_m_X8_hat, 2)), (136, (0, az_m_X8_worthGone, 3)), (139, (0, az_m_X8_present, 1)), (142, (0, az_m_X8_isNoSort, 2)), (145, (0, az_m_X8_goOn, 1)), (149, (0, az_m_X8_worthNext, 3)), (155, (0, az_m_X8_isWrong, 3)), (158, (0, az_m_X8_goAhead, 3)), (161, (0, az_m_X8_swungIn, 2)), (170, (0, az_m_X8_begin, 1)), (179, (0, az_m_X8_isAtRest, 2)), (188, (0, az_m_X8_isNextPlan, 1)), (192, (0, az_m_X8_goThrough, 1))]
def az_ml_9 : List (Nat × (Nat × az_M × Nat)) := [(335, (0, az_m_J0_coder_7d493, 1)), (492, (0, az_m_J0_isLatin1_aae02, 1)), (495, (2, az_m_J1_charAt_3b067, 2)), (505, (0, az_m_J0_length_8abf5, 1)), (633, (0, az_m_J0_indexOf_7cf53, 3)), (637, (2, az_m_J1_indexOf_4cfef, 4)), (1059, (2, az_m_J3_checkIndex_8e157, 3))]
def az_ml_10 : List (Nat × (Nat × az_M × Nat)) := [(9, (2, az_m_J0_checkIndex_df160, 2)), (88, (2, az_m_J1_canEncode_9a6ad, 1)), (95, (2, az_m_J1_indexOfChar_4cfef, 4))]
def az_ml_11 : List (Nat × (Nat × az_M × Nat)) := [(414, (2, az_m_J0_checkIndex_df160, 2))]
def az_ml_15 : List (Nat × (Nat × az_M × Nat)) := [(13, (0, az_m_X7_letter, 2)), (17, (0, az_m_X8_letter, 2)), (18, (0, az_m_X7_town, 1)), (22, (0, az_m_X8_town, 1)), (23, (0, az_m_X7_sort, 3)), (27, (0, az_m_X8_sort, 3)), (28, (0, az_m_X7_rule, 3)), (31, (0, az_m_X8_rule, 3)), (32, (0, az_m_X7_remembered, 2)), (35, (0, az_m_X8_remembered, 2)), (36, (0, az_m_X7_penny, 2)), (39, (0, az_m_X8_penny, 2)), (40, (0, az_m_X7_week, 1)), (43, (0, az_m_X8_week, 1)), (44, (0, az_m_X7_next, 1)), (47, (0, az_m_X8_next, 1)), (48, (0, az_m_X7_goes, 2)), (51, (0, az_m_X8_goes, 2)), (52, (0, az_m_X7_worth, 2)), (55, (0, az_m_X8_worth, 2)), (56, (0, az_m_X7_after, 2)), (59, (0, az_m_X8_after, 2)), (60, (0, az_m_X7_mean, 2)), (63, (0, az_m_X8_mean, 2)), (64, (0, az_m_X7_swing, 2)), (67, (0, az_m_X8_swing, 2)), (68, (0, az_m_X7_good, 2)), (71, (0, az_m_X8_good, 2)), (72, (0, az_m_X7_again, 1)), (75, (0, az_m_X8_again, 1)), (76, (0, az_m_X7_gains, 3)), (79, (0, az_m_X8_gains, 3)), (80, (0, az_m_X7_rests, 1)), (83, (0, az_m_X8_rests, 1)), (84, (0, az_m_X7_rest, 2)), (87, (0, az_m_X8_rest, 2)), (88, (0, az_m_X7_best, 2)), (91, (0, az_m_X8_best, 2)), (92, (0, az_m_X7_off, 1)), (95, (0, az_m_X8_off, 1)), (96, (0, az_m_X7_pennies, 1)), (99, (0, az_m_X8_pennies, 1)), (100, (0, az_m_X7_chairs, 1)), (103, (0, az_m_X8_chairs, 1)), (104, (0, az_m_X7_sees, 5)), (108, (0, az_m_X8_sees, 5)), (109, (0, az_m_X7_which, 2)), (112, (0, az_m_X8_which, 2)), (113, (0, az_m_X7_longer, 2)), (116, (0, az_m_X8_longer, 2)), (117, (0, az_m_X7_seeds, 3)), (120, (0, az_m_X8_seeds, 3)), (121, (0, az_m_X7_row, 2)), (124, (0, az_m_X8_row, 2)), (125, (0, az_m_X7_judge, 1)), (128, (0, az_m_X8_judge, 1)), (129, (0, az_m_X7_image, 1)), (132, (0, az_m_X8_image, 1)), (133, (0, az_m_X7_on, 1)), (136, (0, az_m_X8_on, 1)), (137, (0, az_m_X7_count, 2)), (140, (0, az_m_X8_count, 2))]
def az_ml (c k : Nat) : Option ((Nat × az_M × Nat)) := match c with
  | 0 => az_pool az_ml_0 k
  | 1 => az_pool az_ml_1 k
  | 2 => az_pool az_ml_2 k
  | 3 => az_pool az_ml_3 k
  | 4 => az_pool az_ml_4 k
  | 5 => az_pool az_ml_5 k
  | 6 => az_pool az_ml_6 k
  | 7 => az_pool az_ml_7 k
  | 8 => az_pool az_ml_8 k
  | 9 => az_pool az_ml_9 k
  | 10 => az_pool az_ml_10 k
  | 11 => az_pool az_ml_11 k
  | 15 => az_pool az_ml_15 k
  | _ => none
def az_up (h : az_H) (k j : Nat) (v : Int32) : az_H := fun a => if a = k then upd (h a) j v else h a
/-- text constants: how long, which bytes -/
def az_tl (j : Nat) : Nat := (az_tx.getD j []).length
def az_tb (j i : Nat) : Int32 := (az_tx.getD j []).getD i 0
def az_isT (k : Nat) : Bool := Nat.ble 1000 k && Nat.ble k 1006
def az_isB (k : Nat) : Bool := Nat.ble 1100 k && Nat.ble k 1106
def az_isA (k c : Nat) : Bool := match az_wd[k]? with
  | some (.inl (ci, _)) => Nat.beq ci c
  | some (.inr _) => false
  | none => Nat.beq c 9 && az_isT k
/-- a field's answer: class ci, slot j, of cell k -/
def az_getf (h : az_H) (ci j k : Nat) : Option Value := match az_wd[k]? with
  | some (.inl (c, fs)) => bif Nat.beq c ci then (match fs[j]? with
    | some (some r) => some (.ref r)
    | some none => some (.int (h k j))
    | none => none) else none
  | some (.inr _) => none
  | none => bif Nat.beq ci 9 && az_isT k then (match j with
    | 0 => some (.ref (k + 100))
    | 1 => some (.int 0)
    | _ => none) else none
def az_putf (h : az_H) (ci j k : Nat) (x : Int32) : Option az_H := match az_wd[k]? with
  | some (.inl (c, fs)) => bif Nat.beq c ci then (match fs[j]? with
    | some none => bif az_isZ ci j then (bif x == 0 || x == 1 then some (az_up h k j x) else none) else some (az_up h k j x)
    | _ => none) else none
  | _ => none
def az_alen (sc : az_S) (k : Nat) : Option Nat := match az_wd[k]? with
  | some (.inr (_, n)) => some n
  | some (.inl _) => none
  | none => bif Nat.beq k 2000 then some sc.1 else bif az_isB k then some (az_tl (k - 1100)) else none
/-- where entry j of array k is kept: of the rows 'foretold' (75, 76, 77) in their town's own cell, from place 100 on -/
def az_vk (k : Nat) : Nat := bif Nat.blt k 75 then k else 15 * (k - 75) + 1
def az_vj (k j : Nat) : Nat := bif Nat.blt k 75 then j else 100 + j
theorem az_vk_lt {k : Nat} (hk : k < 75) : az_vk k = k := by simp [az_vk, Nat.blt_eq.mpr hk]
theorem az_vj_lt {k j : Nat} (hk : k < 75) : az_vj k j = j := by simp [az_vj, Nat.blt_eq.mpr hk]
def az_oob (i : Int32) (n : Nat) : Bool := decide (i < 0) || Nat.ble n i.toNatClampNeg
/-- an array entry that is read: by the kind of the instruction's array -/
def az_ald (sc : az_S) (h : az_H) (ty k : Nat) (i : Int32) : Option Int32 := match az_wd[k]? with
  | some (.inr (t, n)) => bif Nat.beq t ty then (bif az_oob i n then none else some (h (az_vk k) (az_vj k i.toNatClampNeg))) else none
  | some (.inl _) => none
  | none => bif Nat.beq ty 0 && Nat.beq k 2000 then (bif az_oob i sc.1 then none else some (sc.2 i.toNatClampNeg)) else
      bif Nat.beq ty 1 && az_isB k then (bif az_oob i (az_tl (k - 1100)) then none else some (az_tb (k - 1100) i.toNatClampNeg)) else none
def az_nar (ty : Nat) (x : Int32) : Int32 := match ty with
  | 0 => x
  | n + 1 => vp_nar (az_fty (n + 1)) x
def az_ast (h : az_H) (ty k : Nat) (i x : Int32) : Option az_H := match az_wd[k]? with
  | some (.inr (t, n)) => bif Nat.beq t ty then (bif az_oob i n then none else some (az_up h (az_vk k) (az_vj k i.toNatClampNeg) (az_nar ty x))) else none
  | _ => none
/-- locals: by place; what isn't known of one is .long 0 -/
def az_set : List Value → Nat → Value → List Value
  | [], 0, v => [v]
  | [], i + 1, v => .long 0 :: az_set [] i v
  | _ :: l, 0, v => v :: l
  | a :: l, i + 1, v => a :: az_set l i v
def az_cnd : ClassFile.Cond → Int32 → Int32 → Bool
  | .eq, x, y => decide (x = y)
  | .ne, x, y => !decide (x = y)
  | .lt, x, y => decide (x < y)
  | .ge, x, y => decide (y ≤ x)
  | .gt, x, y => decide (y < x)
  | .le, x, y => decide (x ≤ y)
def az_rok : Option FieldType → Int32 → Bool
  | some .int, _ => true
  | some .boolean, v => v == 0 || v == 1
  | some .byte, v => decide (narrow .byte (.int v) = .int v)
  | some .char, v => decide (narrow .char (.int v) = .int v)
  | _, _ => false
abbrev az_K : Type := Nat × List Value × List Value × az_H
/-- a jump's end -/
def az_tgt (pc : Nat) (off : Int) : Option Nat := match (pc : Int) + off with
  | .ofNat t => some t
  | .negSucc _ => none
def az_jmp (pc : Nat) (off : Int) (ls st : List Value) (h : az_H) : Option az_K := match az_tgt pc off with
  | some t => some (t, ls, st, h)
  | none => none
def az_ldi (pc n i : Nat) (ls st : List Value) (h : az_H) : Option az_K := match ls[i]? with
  | some (.int x) => some (pc + n, ls, .int x :: st, h)
  | _ => none
def az_ldr (pc n i : Nat) (ls st : List Value) (h : az_H) : Option az_K := match ls[i]? with
  | some (.ref k) => some (pc + n, ls, .ref k :: st, h)
  | _ => none
/-- one instruction that is no call and no return -/
def az_stp (sc : az_S) (M : az_M) (i : Instr) (n pc : Nat) (ls st : List Value) (h : az_H) : Option az_K := match i with
  | .aload_n k => az_ldr pc n k.val ls st h
  | .iload_n k => az_ldi pc n k.val ls st h
  | .iload k => az_ldi pc n k ls st h
  | .aload k => az_ldr pc n k ls st h
  | .istore_n k => match st with
    | .int x :: r => bif Nat.blt k.val (az_nl M) then some (pc + n, az_set ls k.val (.int x), r, h) else none
    | _ => none
  | .istore k => match st with
    | .int x :: r => bif Nat.blt k (az_nl M) then some (pc + n, az_set ls k (.int x), r, h) else none
    | _ => none
  | .astore_n k => match st with
    | .ref x :: r => bif Nat.blt k.val (az_nl M) then some (pc + n, az_set ls k.val (.ref x), r, h) else none
    | _ => none
  | .iinc k c => match ls[k]? with
    | some (.int x) => bif Nat.blt k (az_nl M) then some (pc + n, az_set ls k (.int (x + Int32.ofInt c)), st, h) else none
    | _ => none
  | .iconst c => some (pc + n, ls, .int (Int32.ofInt c) :: st, h)
  | .bipush c => some (pc + n, ls, .int (Int8.ofInt c).toInt32 :: st, h)
  | .sipush c => some (pc + n, ls, .int (Int16.ofInt c).toInt32 :: st, h)
  | .ldc k => match az_ldc M.1 k with
    | some v => some (pc + n, ls, v :: st, h)
    | none => none
  | .iadd => match st with
    | .int y :: .int x :: r => some (pc + n, ls, .int (x + y) :: r, h)
    | _ => none
  | .isub => match st with
    | .int y :: .int x :: r => some (pc + n, ls, .int (x - y) :: r, h)
    | _ => none
  | .imul => match st with
    | .int y :: .int x :: r => some (pc + n, ls, .int (x * y) :: r, h)
    | _ => none
  | .iand => match st with
    | .int y :: .int x :: r => some (pc + n, ls, .int (x &&& y) :: r, h)
    | _ => none
  | .ior => match st with
    | .int y :: .int x :: r => some (pc + n, ls, .int (x ||| y) :: r, h)
    | _ => none
  | .ishl => match st with
    | .int y :: .int x :: r => some (pc + n, ls, .int (x <<< (y &&& 31)) :: r, h)
    | _ => none
  | .ishr => match st with
    | .int y :: .int x :: r => some (pc + n, ls, .int (x >>> (y &&& 31)) :: r, h)
    | _ => none
  | .ineg => match st with
    | .int x :: r => some (pc + n, ls, .int (-x) :: r, h)
    | _ => none
  | .i2c => match st with
    | .int x :: r => some (pc + n, ls, .int (x.toUInt32 % 65536).toInt32 :: r, h)
    | _ => none
  | .i2b => match st with
    | .int x :: r => some (pc + n, ls, .int x.toInt8.toInt32 :: r, h)
    | _ => none
  | .idiv => match st with
    | .int y :: .int x :: r => bif decide (y = 0) then none else some (pc + n, ls, .int (x / y) :: r, h)
    | _ => none
  | .irem => match st with
    | .int y :: .int x :: r => bif decide (y = 0) then none else some (pc + n, ls, .int (x - x / y * y) :: r, h)
    | _ => none
  | .dup => match st with
    | .int x :: r => some (pc + n, ls, .int x :: .int x :: r, h)
    | .ref x :: r => some (pc + n, ls, .ref x :: .ref x :: r, h)
    | _ => none
  | .dup2 => match st with
    | .int x :: .ref k :: r => some (pc + n, ls, .int x :: .ref k :: .int x :: .ref k :: r, h)
    | _ => none
  | .pop => match st with
    | .int _ :: r => some (pc + n, ls, r, h)
    | _ => none
  | .goto off => az_jmp pc off ls st h
  | .ifCond c off => match st with
    | .int x :: r => bif az_cnd c x 0 then az_jmp pc off ls r h else some (pc + n, ls, r, h)
    | _ => none
  | .if_icmp c off => match st with
    | .int y :: .int x :: r => bif az_cnd c x y then az_jmp pc off ls r h else some (pc + n, ls, r, h)
    | _ => none
  | .tableswitch d lo hi offs => match st with
    | .int x :: r => bif decide (x.toInt < lo) || decide (hi < x.toInt) then az_jmp pc d ls r h else (match offs[(x.toInt - lo).toNat]? with
      | some off => az_jmp pc off ls r h
      | none => none)
    | _ => none
  | .lookupswitch d ps => match st with
    | .int x :: r => bif (ps.toList.zip (ps.toList.drop 1)).all (fun q => decide (q.1.1 < q.2.1)) then az_jmp pc (Op.lookupswitch.offset ps.toList d x.toInt) ls r h else none
    | _ => none
  | .getfield k => match az_fl M.1 k, st with
    | some (ci, j), .ref q :: r => (match az_getf h ci j q with
      | some v => some (pc + n, ls, v :: r, h)
      | none => none)
    | _, _ => none
  | .putfield k => match az_fl M.1 k, st with
    | some (ci, j), .int x :: .ref q :: r => (match az_putf h ci j q x with
      | some h' => some (pc + n, ls, r, h')
      | none => none)
    | _, _ => none
  | .getstatic k => match az_cs M.1 k with
    | some v => some (pc + n, ls, v :: st, h)
    | none => none
  | .arraylength => match st with
    | .ref q :: r => (match az_alen sc q with
      | some c => some (pc + n, ls, .int (Int32.ofNat c) :: r, h)
      | none => none)
    | _ => none
  | .iaload => match st with
    | .int i :: .ref q :: r => (match az_ald sc h 0 q i with
      | some v => some (pc + n, ls, .int v :: r, h)
      | none => none)
    | _ => none
  | .baload => match st with
    | .int i :: .ref q :: r => (match az_ald sc h 1 q i with
      | some v => some (pc + n, ls, .int v :: r, h)
      | none => none)
    | _ => none
  | .caload => match st with
    | .int i :: .ref q :: r => (match az_ald sc h 2 q i with
      | some v => some (pc + n, ls, .int v :: r, h)
      | none => none)
    | _ => none
  | .iastore => match st with
    | .int x :: .int i :: .ref q :: r => (match az_ast h 0 q i x with
      | some h' => some (pc + n, ls, r, h')
      | none => none)
    | _ => none
  | .bastore => match st with
    | .int x :: .int i :: .ref q :: r => (match az_ast h 1 q i x with
      | some h' => some (pc + n, ls, r, h')
      | none => none)
    | _ => none
  | .invokestatic k => match az_mx M.1 k, st with
    | some true, .int y :: .int x :: r => bif Nat.ble r.length 8 then some (pc + n, ls, .int (if x < y then y else x) :: r, h) else none
    | some false, .int y :: .int x :: r => bif Nat.ble r.length 8 then some (pc + n, ls, .int (if y < x then y else x) :: r, h) else none
    | _, _ => none
  | _ => none
/-- a return -/
def az_ret (M : az_M) (i : Instr) (st : List Value) : Option (Option Value) := match i, st with
  | .ireturn, [.int v] => bif az_rok (az_rt M) v then some (some (.int v)) else none
  | .areturn, [.ref k] => some (some (.ref k))
  | .return_, [] => some none
  | _, _ => none
/-- a call: the callee, by virtue (0), of a nest mate (1), static (2), static of a nest mate (3); how many arguments -/
def az_tagd (v : Bool) : Option (Nat × az_M × Nat) → Option (Nat × az_M × Nat)
  | some (t, C, k) => bif (bif v then Nat.blt t 2 else Nat.ble 2 t) then some (t, C, k) else none
  | none => none
def az_cal (M : az_M) (i : Instr) : Option (Nat × az_M × Nat) := match i with
  | .invokevirtual k => az_tagd true (az_ml M.1 k)
  | .invokestatic k => az_tagd false (az_ml M.1 k)
  | _ => none
def az_pop : Nat → List Value → List Value → Option (List Value × List Value)
  | 0, acc, st => some (acc, st)
  | k + 1, acc, v :: st => az_pop k (v :: acc) st
  | _ + 1, _, [] => none
def az_rcv (C : az_M) (tag : Nat) (a : List Value) : Bool := match a with
  | .ref k :: _ => Nat.ble 2 tag || az_isA k C.1
  | _ => Nat.ble 2 tag
def az_ev (sc : az_S) : Nat → az_M → Nat → List Value → List Value → az_H → Option (Option Value × az_H)
  | 0, _, _, _, _, _ => none
  | f + 1, M, pc, ls, st, h => match az_look (az_cd M) pc with
    | none => none
    | some (i, n) => match az_cal M i with
      | some (tag, C, k) => (match az_pop k [] st with
        | some (a, r) => bif az_rcv C tag a && Nat.ble r.length 8 then (match az_ev sc f C 0 a [] h with
          | some (v, h1) => az_ev sc f M (pc + n) ls (v.toList ++ r) h1
          | none => none) else none
        | none => none)
      | none => match az_ret M i st with
        | some v => some (v, h)
        | none => match az_stp sc M i n pc ls st h with
          | some (pc', ls', st', h') => az_ev sc f M pc' ls' st' h'
          | none => none
end
section
/-! RUNS OF THE ABSTRACT MACHINE, put together -/
theorem az_mono (sc : az_S) : ∀ (f : Nat) (M : az_M) (pc : Nat) (ls st : List Value) (h : az_H) (x : Option Value × az_H), az_ev sc f M pc ls st h = some x → ∀ g, f ≤ g → az_ev sc g M pc ls st h = some x := by
  intro f
  induction f with
  | zero => intro M pc ls st h x e; simp [az_ev] at e
  | succ f ih =>
    intro M pc ls st h x e g hg
    obtain ⟨g, rfl⟩ : ∃ g', g = g' + 1 := ⟨g - 1, by omega⟩
    have hg' : f ≤ g := by omega
    rw [az_ev] at e ⊢
    cases hl : az_look (az_cd M) pc with
    | none => simp [hl] at e
    | some q =>
      obtain ⟨i, n⟩ := q
      simp only [hl] at e ⊢
      cases hc : az_cal M i with
      | some t =>
        obtain ⟨tag, C, k⟩ := t
        simp only [hc] at e ⊢
        cases hp : az_pop k [] st with
        | none => simp [hp] at e
        | some ar =>
          obtain ⟨a, r⟩ := ar
          simp only [hp] at e ⊢
          cases hb : (az_rcv C tag a && Nat.ble r.length 8) with
          | false => simp [hb] at e
          | true =>
            simp only [hb, cond_true] at e ⊢
            cases h1 : az_ev sc f C 0 a [] h with
            | none => simp [h1] at e
            | some vh =>
              obtain ⟨v, hh⟩ := vh
              simp only [h1] at e
              rw [ih _ _ _ _ _ _ h1 g hg']
              exact ih _ _ _ _ _ _ e g hg'
      | none =>
        simp only [hc] at e ⊢
        cases hr : az_ret M i st with
        | some v => simp only [hr] at e ⊢; exact e
        | none =>
          simp only [hr] at e ⊢
          cases hs : az_stp sc M i n pc ls st h with
          | none => simp [hs] at e
          | some K =>
            obtain ⟨pc', ls', st', h'⟩ := K
            simp only [hs] at e ⊢
            exact ih _ _ _ _ _ _ e g hg'
/-- from here the method comes to its return, with Q -/
def az_E (sc : az_S) (M : az_M) (pc : Nat) (ls st : List Value) (h : az_H) (Q : Option Value → az_H → Prop) : Prop := ∃ f v h1, az_ev sc f M pc ls st h = some (v, h1) ∧ Q v h1
/-- a method, from its start: its answer and what it leaves -/
def az_F (sc : az_S) (M : az_M) (a : List Value) (h : az_H) (v : Option Value) (h1 : az_H) : Prop := ∃ f, az_ev sc f M 0 a [] h = some (v, h1)
theorem az_F.of {sc : az_S} {M : az_M} {a : List Value} {h : az_H} {v : Option Value} {h1 : az_H} (k : az_E sc M 0 a [] h (fun v' h' => v' = v ∧ h' = h1)) : az_F sc M a h v h1 := by
  obtain ⟨f, v', h', e, rfl, rfl⟩ := k
  exact ⟨f, e⟩
theorem az_F.eq {sc : az_S} {M : az_M} {a : List Value} {h : az_H} {v v' : Option Value} {h1 h2 : az_H} (k : az_F sc M a h v h1) (ev : v = v') (eh : h1 = h2) : az_F sc M a h v' h2 := by subst ev; subst eh; exact k
theorem az_E.mono {sc : az_S} {M : az_M} {pc : Nat} {ls st : List Value} {h : az_H} {Q Q' : Option Value → az_H → Prop} (k : az_E sc M pc ls st h Q) (q : ∀ v h1, Q v h1 → Q' v h1) : az_E sc M pc ls st h Q' := by
  obtain ⟨f, v, h1, e, hq⟩ := k
  exact ⟨f, v, h1, e, q v h1 hq⟩
section AZE
variable {sc : az_S} {M : az_M} {pc : Nat} {ls st : List Value} {h : az_H} {Q : Option Value → az_H → Prop} {i : Instr} {n : Nat}
theorem az_e1 {pc' : Nat} {ls' st' : List Value} {h' : az_H} (hl : az_look (az_cd M) pc = some (i, n)) (hc : az_cal M i = none) (hr : az_ret M i st = none) (hs : az_stp sc M i n pc ls st h = some (pc', ls', st', h')) (k : az_E sc M pc' ls' st' h' Q) : az_E sc M pc ls st h Q := by
  obtain ⟨f, v, h1, e, hq⟩ := k
  refine ⟨f + 1, v, h1, ?_, hq⟩
  rw [az_ev]
  simp only [hl, hc, hr, hs]
  exact e
theorem az_eret {v : Option Value} (hl : az_look (az_cd M) pc = some (i, n)) (hc : az_cal M i = none) (hr : az_ret M i st = some v) (hq : Q v h) : az_E sc M pc ls st h Q := by
  refine ⟨1, v, h, ?_, hq⟩
  rw [az_ev]
  simp only [hl, hc, hr]
theorem az_ecall {tag k : Nat} {C : az_M} {a r : List Value} {Q1 : Option Value → az_H → Prop} (hl : az_look (az_cd M) pc = some (i, n)) (hc : az_cal M i = some (tag, C, k)) (hp : az_pop k [] st = some (a, r)) (hv : (az_rcv C tag a && Nat.ble r.length 8) = true)
    (hC : az_E sc C 0 a [] h Q1) (kk : ∀ v h1, Q1 v h1 → az_E sc M (pc + n) ls (v.toList ++ r) h1 Q) : az_E sc M pc ls st h Q := by
  obtain ⟨f1, v1, h1, e1, q1⟩ := hC
  obtain ⟨f2, v2, h2, e2, q2⟩ := kk v1 h1 q1
  refine ⟨max f1 f2 + 1, v2, h2, ?_, q2⟩
  rw [az_ev]
  simp only [hl, hc, hp, hv, cond_true]
  rw [az_mono sc f1 _ _ _ _ _ _ e1 (max f1 f2) (Nat.le_max_left _ _)]
  exact az_mono sc f2 _ _ _ _ _ _ e2 (max f1 f2) (Nat.le_max_right _ _)
theorem az_ecallF {tag k : Nat} {C : az_M} {a r : List Value} {v : Option Value} {h1 : az_H} (hl : az_look (az_cd M) pc = some (i, n)) (hc : az_cal M i = some (tag, C, k)) (hp : az_pop k [] st = some (a, r)) (hv : (az_rcv C tag a && Nat.ble r.length 8) = true)
    (hC : az_F sc C a h v h1) (kk : az_E sc M (pc + n) ls (v.toList ++ r) h1 Q) : az_E sc M pc ls st h Q := by
  obtain ⟨f1, e1⟩ := hC
  refine az_ecall (Q1 := fun v' h' => v' = v ∧ h' = h1) hl hc hp hv ⟨f1, v, h1, e1, rfl, rfl⟩ ?_
  rintro _ _ ⟨rfl, rfl⟩
  exact kk
end AZE
/-- k instructions in a row, none of them a call or a return -/
def az_run (sc : az_S) : Nat → az_M → Nat → List Value → List Value → az_H → Option az_K
  | 0, _, pc, ls, st, h => some (pc, ls, st, h)
  | k + 1, M, pc, ls, st, h => match az_look (az_cd M) pc with
    | some (i, n) => (match az_cal M i with
      | none => (match az_ret M i st with
        | none => (match az_stp sc M i n pc ls st h with
          | some (pc', ls', st', h') => az_run sc k M pc' ls' st' h'
          | none => none)
        | some _ => none)
      | some _ => none)
    | none => none
section AZR
variable {sc : az_S} {M : az_M} {Q : Option Value → az_H → Prop}
theorem az_er : ∀ (k : Nat) {pc : Nat} {ls st : List Value} {h : az_H} {pc' : Nat} {ls' st' : List Value} {h' : az_H}, az_run sc k M pc ls st h = some (pc', ls', st', h') → az_E sc M pc' ls' st' h' Q → az_E sc M pc ls st h Q := by
  intro k
  induction k with
  | zero =>
    intro pc ls st h pc' ls' st' h' e kk
    simp only [az_run, Option.some.injEq, Prod.mk.injEq] at e
    obtain ⟨rfl, rfl, rfl, rfl⟩ := e
    exact kk
  | succ k ih =>
    intro pc ls st h pc' ls' st' h' e kk
    rw [az_run] at e
    cases hl : az_look (az_cd M) pc with
    | none => simp [hl] at e
    | some q =>
      obtain ⟨i, n⟩ := q
      simp only [hl] at e
      cases hc : az_cal M i with
      | some t => simp [hc] at e
      | none =>
        simp only [hc] at e
        cases hr : az_ret M i st with
        | some v => simp [hr] at e
        | none =>
          simp only [hr] at e
          cases hs : az_stp sc M i n pc ls st h with
          | none => simp [hs] at e
          | some K =>
            obtain ⟨pc2, ls2, st2, h2⟩ := K
            simp only [hs] at e
            exact az_e1 hl hc hr hs (ih e kk)
end AZR
section AZS
variable {sc : az_S} {M : az_M} {pc : Nat} {ls st : List Value} {h : az_H} {Q : Option Value → az_H → Prop} {n : Nat}
theorem az_if_eq {x : Int32} {off : Int} {t : Nat} (hl : az_look (az_cd M) pc = some (.ifCond .eq off, n)) (ht : az_tgt pc off = some t) (kt : x = 0 → az_E sc M t ls st h Q) (kf : ¬ x = 0 → az_E sc M (pc + n) ls st h Q) : az_E sc M pc ls (.int x :: st) h Q := by
  by_cases hx : x = 0
  · refine az_e1 hl rfl rfl (pc' := t) (ls' := ls) (st' := st) (h' := h) ?_ (kt hx)
    simp [az_stp, az_cnd, hx, az_jmp, ht]
  · refine az_e1 hl rfl rfl (pc' := pc + n) (ls' := ls) (st' := st) (h' := h) ?_ (kf (by simpa using hx))
    have hx' := hx
    (try simp only [Classical.not_not] at hx')
    simp [az_stp, az_cnd, hx']
theorem az_ic_eq {x y : Int32} {off : Int} {t : Nat} (hl : az_look (az_cd M) pc = some (.if_icmp .eq off, n)) (ht : az_tgt pc off = some t) (kt : x = y → az_E sc M t ls st h Q) (kf : ¬ x = y → az_E sc M (pc + n) ls st h Q) : az_E sc M pc ls (.int y :: .int x :: st) h Q := by
  by_cases hx : x = y
  · refine az_e1 hl rfl rfl (pc' := t) (ls' := ls) (st' := st) (h' := h) ?_ (kt hx)
    simp [az_stp, az_cnd, hx, az_jmp, ht]
  · refine az_e1 hl rfl rfl (pc' := pc + n) (ls' := ls) (st' := st) (h' := h) ?_ (kf (by simpa using hx))
    have hx' := hx
    (try simp only [Classical.not_not] at hx')
    simp [az_stp, az_cnd, hx']
theorem az_if_ne {x : Int32} {off : Int} {t : Nat} (hl : az_look (az_cd M) pc = some (.ifCond .ne off, n)) (ht : az_tgt pc off = some t) (kt : ¬ x = 0 → az_E sc M t ls st h Q) (kf : x = 0 → az_E sc M (pc + n) ls st h Q) : az_E sc M pc ls (.int x :: st) h Q := by
  by_cases hx : ¬ x = 0
  · refine az_e1 hl rfl rfl (pc' := t) (ls' := ls) (st' := st) (h' := h) ?_ (kt hx)
    simp [az_stp, az_cnd, hx, az_jmp, ht]
  · refine az_e1 hl rfl rfl (pc' := pc + n) (ls' := ls) (st' := st) (h' := h) ?_ (kf (by simpa using hx))
    have hx' := hx
    (try simp only [Classical.not_not] at hx')
    simp [az_stp, az_cnd, hx']
theorem az_ic_ne {x y : Int32} {off : Int} {t : Nat} (hl : az_look (az_cd M) pc = some (.if_icmp .ne off, n)) (ht : az_tgt pc off = some t) (kt : ¬ x = y → az_E sc M t ls st h Q) (kf : x = y → az_E sc M (pc + n) ls st h Q) : az_E sc M pc ls (.int y :: .int x :: st) h Q := by
  by_cases hx : ¬ x = y
  · refine az_e1 hl rfl rfl (pc' := t) (ls' := ls) (st' := st) (h' := h) ?_ (kt hx)
    simp [az_stp, az_cnd, hx, az_jmp, ht]
  · refine az_e1 hl rfl rfl (pc' := pc + n) (ls' := ls) (st' := st) (h' := h) ?_ (kf (by simpa using hx))
    have hx' := hx
    (try simp only [Classical.not_not] at hx')
    simp [az_stp, az_cnd, hx']
theorem az_if_lt {x : Int32} {off : Int} {t : Nat} (hl : az_look (az_cd M) pc = some (.ifCond .lt off, n)) (ht : az_tgt pc off = some t) (kt : x < 0 → az_E sc M t ls st h Q) (kf : ¬ x < 0 → az_E sc M (pc + n) ls st h Q) : az_E sc M pc ls (.int x :: st) h Q := by
  by_cases hx : x < 0
  · refine az_e1 hl rfl rfl (pc' := t) (ls' := ls) (st' := st) (h' := h) ?_ (kt hx)
    simp [az_stp, az_cnd, hx, az_jmp, ht]
  · refine az_e1 hl rfl rfl (pc' := pc + n) (ls' := ls) (st' := st) (h' := h) ?_ (kf (by simpa using hx))
    have hx' := hx
    (try simp only [Classical.not_not] at hx')
    simp [az_stp, az_cnd, hx']
theorem az_ic_lt {x y : Int32} {off : Int} {t : Nat} (hl : az_look (az_cd M) pc = some (.if_icmp .lt off, n)) (ht : az_tgt pc off = some t) (kt : x < y → az_E sc M t ls st h Q) (kf : ¬ x < y → az_E sc M (pc + n) ls st h Q) : az_E sc M pc ls (.int y :: .int x :: st) h Q := by
  by_cases hx : x < y
  · refine az_e1 hl rfl rfl (pc' := t) (ls' := ls) (st' := st) (h' := h) ?_ (kt hx)
    simp [az_stp, az_cnd, hx, az_jmp, ht]
  · refine az_e1 hl rfl rfl (pc' := pc + n) (ls' := ls) (st' := st) (h' := h) ?_ (kf (by simpa using hx))
    have hx' := hx
    (try simp only [Classical.not_not] at hx')
    simp [az_stp, az_cnd, hx']
theorem az_if_ge {x : Int32} {off : Int} {t : Nat} (hl : az_look (az_cd M) pc = some (.ifCond .ge off, n)) (ht : az_tgt pc off = some t) (kt : 0 ≤ x → az_E sc M t ls st h Q) (kf : ¬ 0 ≤ x → az_E sc M (pc + n) ls st h Q) : az_E sc M pc ls (.int x :: st) h Q := by
  by_cases hx : 0 ≤ x
  · refine az_e1 hl rfl rfl (pc' := t) (ls' := ls) (st' := st) (h' := h) ?_ (kt hx)
    simp [az_stp, az_cnd, hx, az_jmp, ht]
  · refine az_e1 hl rfl rfl (pc' := pc + n) (ls' := ls) (st' := st) (h' := h) ?_ (kf (by simpa using hx))
    have hx' := hx
    (try simp only [Classical.not_not] at hx')
    simp [az_stp, az_cnd, hx']
theorem az_ic_ge {x y : Int32} {off : Int} {t : Nat} (hl : az_look (az_cd M) pc = some (.if_icmp .ge off, n)) (ht : az_tgt pc off = some t) (kt : y ≤ x → az_E sc M t ls st h Q) (kf : ¬ y ≤ x → az_E sc M (pc + n) ls st h Q) : az_E sc M pc ls (.int y :: .int x :: st) h Q := by
  by_cases hx : y ≤ x
  · refine az_e1 hl rfl rfl (pc' := t) (ls' := ls) (st' := st) (h' := h) ?_ (kt hx)
    simp [az_stp, az_cnd, hx, az_jmp, ht]
  · refine az_e1 hl rfl rfl (pc' := pc + n) (ls' := ls) (st' := st) (h' := h) ?_ (kf (by simpa using hx))
    have hx' := hx
    (try simp only [Classical.not_not] at hx')
    simp [az_stp, az_cnd, hx']
theorem az_if_gt {x : Int32} {off : Int} {t : Nat} (hl : az_look (az_cd M) pc = some (.ifCond .gt off, n)) (ht : az_tgt pc off = some t) (kt : 0 < x → az_E sc M t ls st h Q) (kf : ¬ 0 < x → az_E sc M (pc + n) ls st h Q) : az_E sc M pc ls (.int x :: st) h Q := by
  by_cases hx : 0 < x
  · refine az_e1 hl rfl rfl (pc' := t) (ls' := ls) (st' := st) (h' := h) ?_ (kt hx)
    simp [az_stp, az_cnd, hx, az_jmp, ht]
  · refine az_e1 hl rfl rfl (pc' := pc + n) (ls' := ls) (st' := st) (h' := h) ?_ (kf (by simpa using hx))
    have hx' := hx
    (try simp only [Classical.not_not] at hx')
    simp [az_stp, az_cnd, hx']
theorem az_ic_gt {x y : Int32} {off : Int} {t : Nat} (hl : az_look (az_cd M) pc = some (.if_icmp .gt off, n)) (ht : az_tgt pc off = some t) (kt : y < x → az_E sc M t ls st h Q) (kf : ¬ y < x → az_E sc M (pc + n) ls st h Q) : az_E sc M pc ls (.int y :: .int x :: st) h Q := by
  by_cases hx : y < x
  · refine az_e1 hl rfl rfl (pc' := t) (ls' := ls) (st' := st) (h' := h) ?_ (kt hx)
    simp [az_stp, az_cnd, hx, az_jmp, ht]
  · refine az_e1 hl rfl rfl (pc' := pc + n) (ls' := ls) (st' := st) (h' := h) ?_ (kf (by simpa using hx))
    have hx' := hx
    (try simp only [Classical.not_not] at hx')
    simp [az_stp, az_cnd, hx']
theorem az_if_le {x : Int32} {off : Int} {t : Nat} (hl : az_look (az_cd M) pc = some (.ifCond .le off, n)) (ht : az_tgt pc off = some t) (kt : x ≤ 0 → az_E sc M t ls st h Q) (kf : ¬ x ≤ 0 → az_E sc M (pc + n) ls st h Q) : az_E sc M pc ls (.int x :: st) h Q := by
  by_cases hx : x ≤ 0
  · refine az_e1 hl rfl rfl (pc' := t) (ls' := ls) (st' := st) (h' := h) ?_ (kt hx)
    simp [az_stp, az_cnd, hx, az_jmp, ht]
  · refine az_e1 hl rfl rfl (pc' := pc + n) (ls' := ls) (st' := st) (h' := h) ?_ (kf (by simpa using hx))
    have hx' := hx
    (try simp only [Classical.not_not] at hx')
    simp [az_stp, az_cnd, hx']
theorem az_ic_le {x y : Int32} {off : Int} {t : Nat} (hl : az_look (az_cd M) pc = some (.if_icmp .le off, n)) (ht : az_tgt pc off = some t) (kt : x ≤ y → az_E sc M t ls st h Q) (kf : ¬ x ≤ y → az_E sc M (pc + n) ls st h Q) : az_E sc M pc ls (.int y :: .int x :: st) h Q := by
  by_cases hx : x ≤ y
  · refine az_e1 hl rfl rfl (pc' := t) (ls' := ls) (st' := st) (h' := h) ?_ (kt hx)
    simp [az_stp, az_cnd, hx, az_jmp, ht]
  · refine az_e1 hl rfl rfl (pc' := pc + n) (ls' := ls) (st' := st) (h' := h) ?_ (kf (by simpa using hx))
    have hx' := hx
    (try simp only [Classical.not_not] at hx')
    simp [az_stp, az_cnd, hx']
theorem az_oobF {i : Int32} {n : Nat} (h : vp_in i n) : az_oob i n = false := by
  have h1 : ¬ i < 0 := fun q => h (Or.inl q)
  have h2 : ¬ n ≤ i.toNatClampNeg := fun q => h (Or.inr q)
  simp only [az_oob, Bool.or_eq_false_iff, decide_eq_false_iff_not]
  refine ⟨h1, ?_⟩
  cases hb : Nat.ble n i.toNatClampNeg with
  | false => rfl
  | true => exact absurd (Nat.le_of_ble_eq_true hb) h2
theorem az_len {k t N : Nat} (hl : az_look (az_cd M) pc = some (.arraylength, n)) (hw : az_wd[k]? = some (.inr (t, N))) (K : az_E sc M (pc + n) ls (.int (nI N) :: st) h Q) : az_E sc M pc ls (.ref k :: st) h Q := by
  refine az_e1 hl rfl rfl ?_ K
  simp [az_stp, az_alen, hw, nI]
theorem az_ia0 {k N : Nat} {i : Int32} (hl : az_look (az_cd M) pc = some (.iaload, n)) (hw : az_wd[k]? = some (.inr (0, N))) (hi : vp_in i N) (K : az_E sc M (pc + n) ls (.int (h (az_vk k) (az_vj k i.toNatClampNeg)) :: st) h Q) : az_E sc M pc ls (.int i :: .ref k :: st) h Q := by
  refine az_e1 hl rfl rfl ?_ K
  simp [az_stp, az_ald, hw, az_oobF hi]
theorem az_ias0 {k N : Nat} {i x : Int32} (hl : az_look (az_cd M) pc = some (.iastore, n)) (hw : az_wd[k]? = some (.inr (0, N))) (hi : vp_in i N) (K : az_E sc M (pc + n) ls st (az_up h (az_vk k) (az_vj k i.toNatClampNeg) x) Q) : az_E sc M pc ls (.int x :: .int i :: .ref k :: st) h Q := by
  refine az_e1 hl rfl rfl ?_ K
  simp [az_stp, az_ast, hw, az_oobF hi, az_nar]
theorem az_ia {k N : Nat} {i : Int32} (hl : az_look (az_cd M) pc = some (.iaload, n)) (hw : az_wd[k]? = some (.inr (0, N))) (hi : vp_in i N) (K : az_E sc M (pc + n) ls (.int (h k i.toNatClampNeg) :: st) h Q) (hk : k < 75 := by decide) : az_E sc M pc ls (.int i :: .ref k :: st) h Q := by
  refine az_e1 hl rfl rfl ?_ K
  simp [az_stp, az_ald, hw, az_oobF hi, az_vk_lt hk, az_vj_lt hk]
theorem az_is {N : Nat} {i : Int32} (hl : az_look (az_cd M) pc = some (.iaload, n)) (hN : sc.1 = N) (hi : vp_in i N) (K : az_E sc M (pc + n) ls (.int (sc.2 i.toNatClampNeg) :: st) h Q) : az_E sc M pc ls (.int i :: .ref 2000 :: st) h Q := by
  subst hN
  refine az_e1 hl rfl rfl ?_ K
  have : az_wd[2000]? = none := rfl
  simp [az_stp, az_ald, this, az_oobF hi]
theorem az_ba {k N : Nat} {i : Int32} (hl : az_look (az_cd M) pc = some (.baload, n)) (hw : az_wd[k]? = some (.inr (1, N))) (hi : vp_in i N) (K : az_E sc M (pc + n) ls (.int (h k i.toNatClampNeg) :: st) h Q) (hk : k < 75 := by decide) : az_E sc M pc ls (.int i :: .ref k :: st) h Q := by
  refine az_e1 hl rfl rfl ?_ K
  simp [az_stp, az_ald, hw, az_oobF hi, az_vk_lt hk, az_vj_lt hk]
theorem az_ca {k N : Nat} {i : Int32} (hl : az_look (az_cd M) pc = some (.caload, n)) (hw : az_wd[k]? = some (.inr (2, N))) (hi : vp_in i N) (K : az_E sc M (pc + n) ls (.int (h k i.toNatClampNeg) :: st) h Q) (hk : k < 75 := by decide) : az_E sc M pc ls (.int i :: .ref k :: st) h Q := by
  refine az_e1 hl rfl rfl ?_ K
  simp [az_stp, az_ald, hw, az_oobF hi, az_vk_lt hk, az_vj_lt hk]
theorem az_ias {k N : Nat} {i x : Int32} (hl : az_look (az_cd M) pc = some (.iastore, n)) (hw : az_wd[k]? = some (.inr (0, N))) (hi : vp_in i N) (K : az_E sc M (pc + n) ls st (az_up h k i.toNatClampNeg x) Q) (hk : k < 75 := by decide) : az_E sc M pc ls (.int x :: .int i :: .ref k :: st) h Q := by
  refine az_e1 hl rfl rfl ?_ K
  simp [az_stp, az_ast, hw, az_oobF hi, az_vk_lt hk, az_vj_lt hk, az_nar]
theorem az_bas {k N : Nat} {i x : Int32} (hl : az_look (az_cd M) pc = some (.bastore, n)) (hw : az_wd[k]? = some (.inr (1, N))) (hi : vp_in i N) (K : az_E sc M (pc + n) ls st (az_up h k i.toNatClampNeg (vp_nar .boolean x)) Q) (hk : k < 75 := by decide) : az_E sc M pc ls (.int x :: .int i :: .ref k :: st) h Q := by
  refine az_e1 hl rfl rfl ?_ K
  simp [az_stp, az_ast, hw, az_oobF hi, az_vk_lt hk, az_vj_lt hk, az_nar, az_fty]
theorem az_div {x y : Int32} (hl : az_look (az_cd M) pc = some (.idiv, n)) (hy : ¬ y = 0) (K : az_E sc M (pc + n) ls (.int (x / y) :: st) h Q) : az_E sc M pc ls (.int y :: .int x :: st) h Q := by
  refine az_e1 hl rfl rfl ?_ K
  simp [az_stp, hy]
theorem az_rem {x y : Int32} (hl : az_look (az_cd M) pc = some (.irem, n)) (hy : ¬ y = 0) (K : az_E sc M (pc + n) ls (.int (x - x / y * y) :: st) h Q) : az_E sc M pc ls (.int y :: .int x :: st) h Q := by
  refine az_e1 hl rfl rfl ?_ K
  simp [az_stp, hy]
theorem az_zret {x : Int32} (hl : az_look (az_cd M) pc = some (.ireturn, n)) (hr : az_rt M = some .boolean) (hx : x = 0 ∨ x = 1) (hq : Q (some (.int x)) h) : az_E sc M pc ls [.int x] h Q := by
  refine az_eret hl rfl ?_ hq
  rcases hx with rfl | rfl <;> simp [az_ret, hr, az_rok]
end AZS
end
section
/-! WHAT THE TABLES SAY: the code is the code, the links are the links -/
/-- the words that go from method to method -/
def az_wg : List Cond := lw_tbl.filter goodWord
theorem az_wg_good : ∀ {ws : List Cond}, (∀ w ∈ ws, w ∈ az_wg) → GoodIn az_wg ws := fun h w hw => ⟨h w hw, good_of_word (List.mem_filter.mp (h w hw)).2⟩
theorem az_int {w : Cond} (i : Nat) (h : tables_1[i]? = some w) (g : goodWord w = true) : w ∈ az_wg := List.mem_filter.mpr ⟨List.mem_append_right _ (List.mem_of_getElem? h), g⟩
theorem az_ins {w : Cond} (i : Nat) (h : (k2_sels lw_privs)[i]? = some w) (g : goodWord w = true) : w ∈ az_wg := List.mem_filter.mpr ⟨List.mem_append_left _ (List.mem_of_getElem? h), g⟩
theorem az_pool_in {α : Type} : ∀ {l : List (Nat × α)} {k : Nat} {a : α}, az_pool l k = some a → (k, a) ∈ l
  | [], k, a, h => by simp [az_pool] at h
  | (q, b) :: r, k, a, h => by
    rw [az_pool] at h
    cases hb : Nat.beq q k with
    | true =>
      simp only [hb, cond_true, Option.some.injEq] at h
      subst h
      rw [Nat.eq_of_beq_eq_true hb]
      exact List.mem_cons_self
    | false =>
      simp only [hb, cond_false] at h
      exact List.mem_cons_of_mem _ (az_pool_in h)
theorem az_look_in : ∀ {l : List (Nat × Instr × Nat)} {pc : Nat} {i : Instr} {n : Nat}, az_look l pc = some (i, n) → (pc, i, n) ∈ l
  | [], pc, i, n, h => by simp [az_look] at h
  | (q, j, m) :: r, pc, i, n, h => by
    rw [az_look] at h
    cases hb : Nat.beq q pc with
    | true =>
      simp only [hb, cond_true, Option.some.injEq, Prod.mk.injEq] at h
      obtain ⟨rfl, rfl⟩ := h
      rw [Nat.eq_of_beq_eq_true hb]
      exact List.mem_cons_self
    | false =>
      simp only [hb, cond_false] at h
      exact List.mem_cons_of_mem _ (az_look_in h)
/-- an instruction's length, and where it jumps -/
def az_insok (pc : Nat) (i : Instr) (n : Nat) : Bool := match i with
  | .iload _ => Nat.beq n 2
  | .aload _ => Nat.beq n 2
  | .istore _ => Nat.beq n 2
  | .bipush _ => Nat.beq n 2
  | .ldc _ => Nat.beq n 2
  | .sipush _ => Nat.beq n 3
  | .iinc _ _ => Nat.beq n 3
  | .ifCond _ off => Nat.beq n 3 && decide (0 ≤ (pc : Int) + off)
  | .if_icmp _ off => Nat.beq n 3 && decide (0 ≤ (pc : Int) + off)
  | .goto off => Nat.beq n 3 && decide (0 ≤ (pc : Int) + off)
  | .getfield _ => Nat.beq n 3
  | .putfield _ => Nat.beq n 3
  | .getstatic _ => Nat.beq n 3
  | .invokestatic _ => Nat.beq n 3
  | .invokevirtual _ => Nat.beq n 3
  | .invokespecial _ => Nat.beq n 3
  | .new _ => Nat.beq n 3
  | .tableswitch .. => true
  | .lookupswitch .. => true
  | _ => Nat.beq n 1
/-- room for each call -/
def az_room (M : az_M) (i : Instr) : Bool := match az_cal M i with
  | some (_, C, k) => Nat.ble (az_fr C + 1) (az_fr M) && (Nat.ble (8 + (az_nl C + 11) + az_lo C) (az_lo M) && Nat.ble k (az_nl C))
  | none => match i with
    | .invokestatic k => (match az_mx M.1 k with
      | some _ => Nat.ble 1 (az_fr M) && Nat.ble 21 (az_lo M)
      | none => true)
    | _ => true
def az_codeok (M : az_M) : Bool := (az_cd M).all fun q => decide (decode (az_by M) q.1 = .ok (q.2.1, q.2.2)) && (az_insok q.1 q.2.1 q.2.2 && az_room M q.2.1)
def az_all : List az_M := [az_m_X0_begin, az_m_X0_add, az_m_X0_hasPlan, az_m_X0_plans, az_m_X0_countWays, az_m_X0_greatestWorth, az_m_X0_greatestGain, az_m_X0_keepFirst, az_m_X1_copyFrom, az_m_X1_add, az_m_X2_restingPlans, az_m_X2_findFirstResting, az_m_X2_bestRestingWorth, az_m_X2_bestWorth, az_m_X2_findFirstBest, az_m_X2_presentOfFirst, az_m_X2_offerFirst, az_m_X2_isBoxBeforeFirst, az_m_X2_beginBand, az_m_X2_boxAll, az_m_X2_boxResting, az_m_X3_copyFrom, az_m_X3_has, az_m_X3_add, az_m_X3_mostRight, az_m_X3_lengthen, az_m_X4_copyFrom, az_m_X4_has, az_m_X4_add, az_m_X4_people, az_m_X5_add, az_m_X5_clear, az_m_X5_tellTo, az_m_X5_badPlace, az_m_X5_formAt, az_m_X5_numberForm, az_m_X5_fits, az_m_X5_tellStatement, az_m_X5_tellSort, az_m_X5_letterAt, az_m_X5_isDigit, az_m_X5_digitAt, az_m_X5_numberAt, az_m_X5_kindAt, az_m_X6_copyFrom, az_m_X6_setChairs, az_m_X6_addWeek, az_m_X6_mayFollow, az_m_X6_presentAgo, az_m_X6_meanPresent, az_m_X6_foretells, az_m_X6_isRight, az_m_X6_decide, az_m_X6_askRules, az_m_X6_askSorts, az_m_X6_settle, az_m_X6_wantsToGo, az_m_X6_goBy, az_m_X6_worthToOne, az_m_X6_worthToAll, az_m_X6_drawMemory, az_m_X7_letter, az_m_X7_town, az_m_X7_sort, az_m_X7_rule, az_m_X7_remembered, az_m_X7_penny, az_m_X7_week, az_m_X7_next, az_m_X7_goes, az_m_X7_worth, az_m_X7_after, az_m_X7_mean, az_m_X7_swing, az_m_X7_good, az_m_X7_again, az_m_X7_gains, az_m_X7_rests, az_m_X7_rest, az_m_X7_best, az_m_X7_off, az_m_X7_pennies, az_m_X7_chairs, az_m_X7_sees, az_m_X7_which, az_m_X7_longer, az_m_X7_seeds, az_m_X7_row, az_m_X7_judge, az_m_X7_image, az_m_X7_on, az_m_X7_count, az_m_X7_refuse, az_m_X7_refuseWorth, az_m_X7_lookAhead, az_m_X7_swingOf, az_m_X7_comesAgainAfter, az_m_X7_gainsInMind, az_m_X7_tallyRight, az_m_X7_outside, az_m_X7_at, az_m_X7_put, az_m_X7_copyRow, az_m_X7_quotient, az_m_X7_remainder, az_m_X8_no, az_m_X8_move, az_m_X8_image, az_m_X8_on, az_m_X8_of, az_m_X8_people, az_m_X8_letter, az_m_X8_expect, az_m_X8_oneOf, az_m_X8_figures, az_m_X8_statement, az_m_X8_isAsItMustBe, az_m_X8_remember, az_m_X8_come, az_m_X8_read, az_m_X8_town, az_m_X8_ago, az_m_X8_foretold, az_m_X8_isRoom, az_m_X8_hat, az_m_X8_present, az_m_X8_worthGone, az_m_X8_worthNext, az_m_X8_goOn, az_m_X8_isNoSort, az_m_X8_sort, az_m_X8_rule, az_m_X8_remembered, az_m_X8_penny, az_m_X8_week, az_m_X8_next, az_m_X8_goes, az_m_X8_worth, az_m_X8_isWrong, az_m_X8_goAhead, az_m_X8_swungIn, az_m_X8_after, az_m_X8_mean, az_m_X8_swing, az_m_X8_good, az_m_X8_again, az_m_X8_gains, az_m_X8_begin, az_m_X8_isNextPlan, az_m_X8_isAtRest, az_m_X8_goThrough, az_m_X8_rests, az_m_X8_rest, az_m_X8_best, az_m_X8_off, az_m_X8_pennies, az_m_X8_chairs, az_m_X8_sees, az_m_X8_which, az_m_X8_longer, az_m_X8_seeds, az_m_X8_row, az_m_X8_judge, az_m_X8_count, az_m_J0_length_8abf5, az_m_J0_isEmpty_aae02, az_m_J0_charAt_5068e, az_m_J0_indexOf_0f7a4, az_m_J0_indexOf_7cf53, az_m_J0_coder_7d493, az_m_J0_isLatin1_aae02, az_m_J1_charAt_3b067, az_m_J1_canEncode_9a6ad, az_m_J1_indexOf_4cfef, az_m_J1_indexOfChar_4cfef, az_m_J0_checkIndex_df160, az_m_J3_checkIndex_8e157, az_m_L_law]
set_option maxRecDepth 100000 in
theorem az_co_X0_begin : az_codeok az_m_X0_begin = true := by decide +kernel
set_option maxRecDepth 100000 in
theorem az_co_X0_add : az_codeok az_m_X0_add = true := by decide +kernel
set_option maxRecDepth 100000 in
theorem az_co_X0_hasPlan : az_codeok az_m_X0_hasPlan = true := by decide +kernel
set_option maxRecDepth 100000 in
theorem az_co_X0_plans : az_codeok az_m_X0_plans = true := by decide +kernel
set_option maxRecDepth 100000 in
theorem az_co_X0_countWays : az_codeok az_m_X0_countWays = true := by decide +kernel
set_option maxRecDepth 100000 in
theorem az_co_X0_greatestWorth : az_codeok az_m_X0_greatestWorth = true := by decide +kernel
set_option maxRecDepth 100000 in
theorem az_co_X0_greatestGain : az_codeok az_m_X0_greatestGain = true := by decide +kernel
set_option maxRecDepth 100000 in
theorem az_co_X0_keepFirst : az_codeok az_m_X0_keepFirst = true := by decide +kernel
set_option maxRecDepth 100000 in
theorem az_co_X1_copyFrom : az_codeok az_m_X1_copyFrom = true := by decide +kernel
set_option maxRecDepth 100000 in
theorem az_co_X1_add : az_codeok az_m_X1_add = true := by decide +kernel
set_option maxRecDepth 100000 in
theorem az_co_X2_restingPlans : az_codeok az_m_X2_restingPlans = true := by decide +kernel
set_option maxRecDepth 100000 in
theorem az_co_X2_findFirstResting : az_codeok az_m_X2_findFirstResting = true := by decide +kernel
set_option maxRecDepth 100000 in
theorem az_co_X2_bestRestingWorth : az_codeok az_m_X2_bestRestingWorth = true := by decide +kernel
set_option maxRecDepth 100000 in
theorem az_co_X2_bestWorth : az_codeok az_m_X2_bestWorth = true := by decide +kernel
set_option maxRecDepth 100000 in
theorem az_co_X2_findFirstBest : az_codeok az_m_X2_findFirstBest = true := by decide +kernel
set_option maxRecDepth 100000 in
theorem az_co_X2_presentOfFirst : az_codeok az_m_X2_presentOfFirst = true := by decide +kernel
set_option maxRecDepth 100000 in
theorem az_co_X2_offerFirst : az_codeok az_m_X2_offerFirst = true := by decide +kernel
set_option maxRecDepth 100000 in
theorem az_co_X2_isBoxBeforeFirst : az_codeok az_m_X2_isBoxBeforeFirst = true := by decide +kernel
set_option maxRecDepth 100000 in
theorem az_co_X2_beginBand : az_codeok az_m_X2_beginBand = true := by decide +kernel
set_option maxRecDepth 100000 in
theorem az_co_X2_boxAll : az_codeok az_m_X2_boxAll = true := by decide +kernel
set_option maxRecDepth 100000 in
theorem az_co_X2_boxResting : az_codeok az_m_X2_boxResting = true := by decide +kernel
set_option maxRecDepth 100000 in
theorem az_co_X3_copyFrom : az_codeok az_m_X3_copyFrom = true := by decide +kernel
set_option maxRecDepth 100000 in
theorem az_co_X3_has : az_codeok az_m_X3_has = true := by decide +kernel
set_option maxRecDepth 100000 in
theorem az_co_X3_add : az_codeok az_m_X3_add = true := by decide +kernel
set_option maxRecDepth 100000 in
theorem az_co_X3_mostRight : az_codeok az_m_X3_mostRight = true := by decide +kernel
set_option maxRecDepth 100000 in
theorem az_co_X3_lengthen : az_codeok az_m_X3_lengthen = true := by decide +kernel
set_option maxRecDepth 100000 in
theorem az_co_X4_copyFrom : az_codeok az_m_X4_copyFrom = true := by decide +kernel
set_option maxRecDepth 100000 in
theorem az_co_X4_has : az_codeok az_m_X4_has = true := by decide +kernel
set_option maxRecDepth 100000 in
theorem az_co_X4_add : az_codeok az_m_X4_add = true := by decide +kernel
set_option maxRecDepth 100000 in
theorem az_co_X4_people : az_codeok az_m_X4_people = true := by decide +kernel
set_option maxRecDepth 100000 in
theorem az_co_X5_add : az_codeok az_m_X5_add = true := by decide +kernel
set_option maxRecDepth 100000 in
theorem az_co_X5_clear : az_codeok az_m_X5_clear = true := by decide +kernel
set_option maxRecDepth 100000 in
theorem az_co_X5_tellTo : az_codeok az_m_X5_tellTo = true := by decide +kernel
set_option maxRecDepth 100000 in
theorem az_co_X5_badPlace : az_codeok az_m_X5_badPlace = true := by decide +kernel
set_option maxRecDepth 100000 in
theorem az_co_X5_formAt : az_codeok az_m_X5_formAt = true := by decide +kernel
set_option maxRecDepth 100000 in
theorem az_co_X5_numberForm : az_codeok az_m_X5_numberForm = true := by decide +kernel
set_option maxRecDepth 100000 in
theorem az_co_X5_fits : az_codeok az_m_X5_fits = true := by decide +kernel
set_option maxRecDepth 100000 in
theorem az_co_X5_tellStatement : az_codeok az_m_X5_tellStatement = true := by decide +kernel
set_option maxRecDepth 100000 in
theorem az_co_X5_tellSort : az_codeok az_m_X5_tellSort = true := by decide +kernel
set_option maxRecDepth 100000 in
theorem az_co_X5_letterAt : az_codeok az_m_X5_letterAt = true := by decide +kernel
set_option maxRecDepth 100000 in
theorem az_co_X5_isDigit : az_codeok az_m_X5_isDigit = true := by decide +kernel
set_option maxRecDepth 100000 in
theorem az_co_X5_digitAt : az_codeok az_m_X5_digitAt = true := by decide +kernel
set_option maxRecDepth 100000 in
theorem az_co_X5_numberAt : az_codeok az_m_X5_numberAt = true := by decide +kernel
set_option maxRecDepth 100000 in
theorem az_co_X5_kindAt : az_codeok az_m_X5_kindAt = true := by decide +kernel
set_option maxRecDepth 100000 in
theorem az_co_X6_copyFrom : az_codeok az_m_X6_copyFrom = true := by decide +kernel
set_option maxRecDepth 100000 in
theorem az_co_X6_setChairs : az_codeok az_m_X6_setChairs = true := by decide +kernel
set_option maxRecDepth 100000 in
theorem az_co_X6_addWeek : az_codeok az_m_X6_addWeek = true := by decide +kernel
set_option maxRecDepth 100000 in
theorem az_co_X6_mayFollow : az_codeok az_m_X6_mayFollow = true := by decide +kernel
set_option maxRecDepth 100000 in
theorem az_co_X6_presentAgo : az_codeok az_m_X6_presentAgo = true := by decide +kernel
set_option maxRecDepth 100000 in
theorem az_co_X6_meanPresent : az_codeok az_m_X6_meanPresent = true := by decide +kernel
set_option maxRecDepth 100000 in
theorem az_co_X6_foretells : az_codeok az_m_X6_foretells = true := by decide +kernel
set_option maxRecDepth 100000 in
theorem az_co_X6_isRight : az_codeok az_m_X6_isRight = true := by decide +kernel
set_option maxRecDepth 100000 in
theorem az_co_X6_decide : az_codeok az_m_X6_decide = true := by decide +kernel
set_option maxRecDepth 100000 in
theorem az_co_X6_askRules : az_codeok az_m_X6_askRules = true := by decide +kernel
set_option maxRecDepth 100000 in
theorem az_co_X6_askSorts : az_codeok az_m_X6_askSorts = true := by decide +kernel
set_option maxRecDepth 100000 in
theorem az_co_X6_settle : az_codeok az_m_X6_settle = true := by decide +kernel
set_option maxRecDepth 100000 in
theorem az_co_X6_wantsToGo : az_codeok az_m_X6_wantsToGo = true := by decide +kernel
set_option maxRecDepth 100000 in
theorem az_co_X6_goBy : az_codeok az_m_X6_goBy = true := by decide +kernel
set_option maxRecDepth 100000 in
theorem az_co_X6_worthToOne : az_codeok az_m_X6_worthToOne = true := by decide +kernel
set_option maxRecDepth 100000 in
theorem az_co_X6_worthToAll : az_codeok az_m_X6_worthToAll = true := by decide +kernel
set_option maxRecDepth 100000 in
theorem az_co_X6_drawMemory : az_codeok az_m_X6_drawMemory = true := by decide +kernel
set_option maxRecDepth 100000 in
theorem az_co_X7_letter : az_codeok az_m_X7_letter = true := by decide +kernel
set_option maxRecDepth 100000 in
theorem az_co_X7_town : az_codeok az_m_X7_town = true := by decide +kernel
set_option maxRecDepth 100000 in
theorem az_co_X7_sort : az_codeok az_m_X7_sort = true := by decide +kernel
set_option maxRecDepth 100000 in
theorem az_co_X7_rule : az_codeok az_m_X7_rule = true := by decide +kernel
set_option maxRecDepth 100000 in
theorem az_co_X7_remembered : az_codeok az_m_X7_remembered = true := by decide +kernel
set_option maxRecDepth 100000 in
theorem az_co_X7_penny : az_codeok az_m_X7_penny = true := by decide +kernel
set_option maxRecDepth 100000 in
theorem az_co_X7_week : az_codeok az_m_X7_week = true := by decide +kernel
set_option maxRecDepth 100000 in
theorem az_co_X7_next : az_codeok az_m_X7_next = true := by decide +kernel
set_option maxRecDepth 100000 in
theorem az_co_X7_goes : az_codeok az_m_X7_goes = true := by decide +kernel
set_option maxRecDepth 100000 in
theorem az_co_X7_worth : az_codeok az_m_X7_worth = true := by decide +kernel
set_option maxRecDepth 100000 in
theorem az_co_X7_after : az_codeok az_m_X7_after = true := by decide +kernel
set_option maxRecDepth 100000 in
theorem az_co_X7_mean : az_codeok az_m_X7_mean = true := by decide +kernel
set_option maxRecDepth 100000 in
theorem az_co_X7_swing : az_codeok az_m_X7_swing = true := by decide +kernel
set_option maxRecDepth 100000 in
theorem az_co_X7_good : az_codeok az_m_X7_good = true := by decide +kernel
set_option maxRecDepth 100000 in
theorem az_co_X7_again : az_codeok az_m_X7_again = true := by decide +kernel
set_option maxRecDepth 100000 in
theorem az_co_X7_gains : az_codeok az_m_X7_gains = true := by decide +kernel
set_option maxRecDepth 100000 in
theorem az_co_X7_rests : az_codeok az_m_X7_rests = true := by decide +kernel
set_option maxRecDepth 100000 in
theorem az_co_X7_rest : az_codeok az_m_X7_rest = true := by decide +kernel
set_option maxRecDepth 100000 in
theorem az_co_X7_best : az_codeok az_m_X7_best = true := by decide +kernel
set_option maxRecDepth 100000 in
theorem az_co_X7_off : az_codeok az_m_X7_off = true := by decide +kernel
set_option maxRecDepth 100000 in
theorem az_co_X7_pennies : az_codeok az_m_X7_pennies = true := by decide +kernel
set_option maxRecDepth 100000 in
theorem az_co_X7_chairs : az_codeok az_m_X7_chairs = true := by decide +kernel
set_option maxRecDepth 100000 in
theorem az_co_X7_sees : az_codeok az_m_X7_sees = true := by decide +kernel
set_option maxRecDepth 100000 in
theorem az_co_X7_which : az_codeok az_m_X7_which = true := by decide +kernel
set_option maxRecDepth 100000 in
theorem az_co_X7_longer : az_codeok az_m_X7_longer = true := by decide +kernel
set_option maxRecDepth 100000 in
theorem az_co_X7_seeds : az_codeok az_m_X7_seeds = true := by decide +kernel
set_option maxRecDepth 100000 in
theorem az_co_X7_row : az_codeok az_m_X7_row = true := by decide +kernel
set_option maxRecDepth 100000 in
theorem az_co_X7_judge : az_codeok az_m_X7_judge = true := by decide +kernel
set_option maxRecDepth 100000 in
theorem az_co_X7_image : az_codeok az_m_X7_image = true := by decide +kernel
set_option maxRecDepth 100000 in
theorem az_co_X7_on : az_codeok az_m_X7_on = true := by decide +kernel
set_option maxRecDepth 100000 in
theorem az_co_X7_count : az_codeok az_m_X7_count = true := by decide +kernel
set_option maxRecDepth 100000 in
theorem az_co_X7_refuse : az_codeok az_m_X7_refuse = true := by decide +kernel
set_option maxRecDepth 100000 in
theorem az_co_X7_refuseWorth : az_codeok az_m_X7_refuseWorth = true := by decide +kernel
set_option maxRecDepth 100000 in
theorem az_co_X7_lookAhead : az_codeok az_m_X7_lookAhead = true := by decide +kernel
set_option maxRecDepth 100000 in
theorem az_co_X7_swingOf : az_codeok az_m_X7_swingOf = true := by decide +kernel
set_option maxRecDepth 100000 in
theorem az_co_X7_comesAgainAfter : az_codeok az_m_X7_comesAgainAfter = true := by decide +kernel
set_option maxRecDepth 100000 in
theorem az_co_X7_gainsInMind : az_codeok az_m_X7_gainsInMind = true := by decide +kernel
set_option maxRecDepth 100000 in
theorem az_co_X7_tallyRight : az_codeok az_m_X7_tallyRight = true := by decide +kernel
set_option maxRecDepth 100000 in
theorem az_co_X7_outside : az_codeok az_m_X7_outside = true := by decide +kernel
set_option maxRecDepth 100000 in
theorem az_co_X7_at : az_codeok az_m_X7_at = true := by decide +kernel
set_option maxRecDepth 100000 in
theorem az_co_X7_put : az_codeok az_m_X7_put = true := by decide +kernel
set_option maxRecDepth 100000 in
theorem az_co_X7_copyRow : az_codeok az_m_X7_copyRow = true := by decide +kernel
set_option maxRecDepth 100000 in
theorem az_co_X7_quotient : az_codeok az_m_X7_quotient = true := by decide +kernel
set_option maxRecDepth 100000 in
theorem az_co_X7_remainder : az_codeok az_m_X7_remainder = true := by decide +kernel
set_option maxRecDepth 100000 in
theorem az_co_X8_no : az_codeok az_m_X8_no = true := by decide +kernel
set_option maxRecDepth 100000 in
theorem az_co_X8_move : az_codeok az_m_X8_move = true := by decide +kernel
set_option maxRecDepth 100000 in
theorem az_co_X8_image : az_codeok az_m_X8_image = true := by decide +kernel
set_option maxRecDepth 100000 in
theorem az_co_X8_on : az_codeok az_m_X8_on = true := by decide +kernel
set_option maxRecDepth 100000 in
theorem az_co_X8_of : az_codeok az_m_X8_of = true := by decide +kernel
set_option maxRecDepth 100000 in
theorem az_co_X8_people : az_codeok az_m_X8_people = true := by decide +kernel
set_option maxRecDepth 100000 in
theorem az_co_X8_letter : az_codeok az_m_X8_letter = true := by decide +kernel
set_option maxRecDepth 100000 in
theorem az_co_X8_expect : az_codeok az_m_X8_expect = true := by decide +kernel
set_option maxRecDepth 100000 in
theorem az_co_X8_oneOf : az_codeok az_m_X8_oneOf = true := by decide +kernel
set_option maxRecDepth 100000 in
theorem az_co_X8_figures : az_codeok az_m_X8_figures = true := by decide +kernel
set_option maxRecDepth 100000 in
theorem az_co_X8_statement : az_codeok az_m_X8_statement = true := by decide +kernel
set_option maxRecDepth 100000 in
theorem az_co_X8_isAsItMustBe : az_codeok az_m_X8_isAsItMustBe = true := by decide +kernel
set_option maxRecDepth 100000 in
theorem az_co_X8_remember : az_codeok az_m_X8_remember = true := by decide +kernel
set_option maxRecDepth 100000 in
theorem az_co_X8_come : az_codeok az_m_X8_come = true := by decide +kernel
set_option maxRecDepth 100000 in
theorem az_co_X8_read : az_codeok az_m_X8_read = true := by decide +kernel
set_option maxRecDepth 100000 in
theorem az_co_X8_town : az_codeok az_m_X8_town = true := by decide +kernel
set_option maxRecDepth 100000 in
theorem az_co_X8_ago : az_codeok az_m_X8_ago = true := by decide +kernel
set_option maxRecDepth 100000 in
theorem az_co_X8_foretold : az_codeok az_m_X8_foretold = true := by decide +kernel
set_option maxRecDepth 100000 in
theorem az_co_X8_isRoom : az_codeok az_m_X8_isRoom = true := by decide +kernel
set_option maxRecDepth 100000 in
theorem az_co_X8_hat : az_codeok az_m_X8_hat = true := by decide +kernel
set_option maxRecDepth 100000 in
theorem az_co_X8_present : az_codeok az_m_X8_present = true := by decide +kernel
set_option maxRecDepth 100000 in
theorem az_co_X8_worthGone : az_codeok az_m_X8_worthGone = true := by decide +kernel
set_option maxRecDepth 100000 in
theorem az_co_X8_worthNext : az_codeok az_m_X8_worthNext = true := by decide +kernel
set_option maxRecDepth 100000 in
theorem az_co_X8_goOn : az_codeok az_m_X8_goOn = true := by decide +kernel
set_option maxRecDepth 100000 in
theorem az_co_X8_isNoSort : az_codeok az_m_X8_isNoSort = true := by decide +kernel
set_option maxRecDepth 100000 in
theorem az_co_X8_sort : az_codeok az_m_X8_sort = true := by decide +kernel
set_option maxRecDepth 100000 in
theorem az_co_X8_rule : az_codeok az_m_X8_rule = true := by decide +kernel
set_option maxRecDepth 100000 in
theorem az_co_X8_remembered : az_codeok az_m_X8_remembered = true := by decide +kernel
set_option maxRecDepth 100000 in
theorem az_co_X8_penny : az_codeok az_m_X8_penny = true := by decide +kernel
set_option maxRecDepth 100000 in
theorem az_co_X8_week : az_codeok az_m_X8_week = true := by decide +kernel
set_option maxRecDepth 100000 in
theorem az_co_X8_next : az_codeok az_m_X8_next = true := by decide +kernel
set_option maxRecDepth 100000 in
theorem az_co_X8_goes : az_codeok az_m_X8_goes = true := by decide +kernel
set_option maxRecDepth 100000 in
theorem az_co_X8_worth : az_codeok az_m_X8_worth = true := by decide +kernel
set_option maxRecDepth 100000 in
theorem az_co_X8_isWrong : az_codeok az_m_X8_isWrong = true := by decide +kernel
set_option maxRecDepth 100000 in
theorem az_co_X8_goAhead : az_codeok az_m_X8_goAhead = true := by decide +kernel
set_option maxRecDepth 100000 in
theorem az_co_X8_swungIn : az_codeok az_m_X8_swungIn = true := by decide +kernel
set_option maxRecDepth 100000 in
theorem az_co_X8_after : az_codeok az_m_X8_after = true := by decide +kernel
set_option maxRecDepth 100000 in
theorem az_co_X8_mean : az_codeok az_m_X8_mean = true := by decide +kernel
set_option maxRecDepth 100000 in
theorem az_co_X8_swing : az_codeok az_m_X8_swing = true := by decide +kernel
set_option maxRecDepth 100000 in
theorem az_co_X8_good : az_codeok az_m_X8_good = true := by decide +kernel
set_option maxRecDepth 100000 in
theorem az_co_X8_again : az_codeok az_m_X8_again = true := by decide +kernel
set_option maxRecDepth 100000 in
theorem az_co_X8_gains : az_codeok az_m_X8_gains = true := by decide +kernel
set_option maxRecDepth 100000 in
theorem az_co_X8_begin : az_codeok az_m_X8_begin = true := by decide +kernel
set_option maxRecDepth 100000 in
theorem az_co_X8_isNextPlan : az_codeok az_m_X8_isNextPlan = true := by decide +kernel
set_option maxRecDepth 100000 in
theorem az_co_X8_isAtRest : az_codeok az_m_X8_isAtRest = true := by decide +kernel
set_option maxRecDepth 100000 in
theorem az_co_X8_goThrough : az_codeok az_m_X8_goThrough = true := by decide +kernel
set_option maxRecDepth 100000 in
theorem az_co_X8_rests : az_codeok az_m_X8_rests = true := by decide +kernel
set_option maxRecDepth 100000 in
theorem az_co_X8_rest : az_codeok az_m_X8_rest = true := by decide +kernel
set_option maxRecDepth 100000 in
theorem az_co_X8_best : az_codeok az_m_X8_best = true := by decide +kernel
set_option maxRecDepth 100000 in
theorem az_co_X8_off : az_codeok az_m_X8_off = true := by decide +kernel
set_option maxRecDepth 100000 in
theorem az_co_X8_pennies : az_codeok az_m_X8_pennies = true := by decide +kernel
set_option maxRecDepth 100000 in
theorem az_co_X8_chairs : az_codeok az_m_X8_chairs = true := by decide +kernel
set_option maxRecDepth 100000 in
theorem az_co_X8_sees : az_codeok az_m_X8_sees = true := by decide +kernel
set_option maxRecDepth 100000 in
theorem az_co_X8_which : az_codeok az_m_X8_which = true := by decide +kernel
set_option maxRecDepth 100000 in
theorem az_co_X8_longer : az_codeok az_m_X8_longer = true := by decide +kernel
set_option maxRecDepth 100000 in
theorem az_co_X8_seeds : az_codeok az_m_X8_seeds = true := by decide +kernel
set_option maxRecDepth 100000 in
theorem az_co_X8_row : az_codeok az_m_X8_row = true := by decide +kernel
set_option maxRecDepth 100000 in
theorem az_co_X8_judge : az_codeok az_m_X8_judge = true := by decide +kernel
set_option maxRecDepth 100000 in
theorem az_co_X8_count : az_codeok az_m_X8_count = true := by decide +kernel
set_option maxRecDepth 100000 in
theorem az_co_J0_length_8abf5 : az_codeok az_m_J0_length_8abf5 = true := by decide +kernel
set_option maxRecDepth 100000 in
theorem az_co_J0_isEmpty_aae02 : az_codeok az_m_J0_isEmpty_aae02 = true := by decide +kernel
set_option maxRecDepth 100000 in
theorem az_co_J0_charAt_5068e : az_codeok az_m_J0_charAt_5068e = true := by decide +kernel
set_option maxRecDepth 100000 in
theorem az_co_J0_indexOf_0f7a4 : az_codeok az_m_J0_indexOf_0f7a4 = true := by decide +kernel
set_option maxRecDepth 100000 in
theorem az_co_J0_indexOf_7cf53 : az_codeok az_m_J0_indexOf_7cf53 = true := by decide +kernel
set_option maxRecDepth 100000 in
theorem az_co_J0_coder_7d493 : az_codeok az_m_J0_coder_7d493 = true := by decide +kernel
set_option maxRecDepth 100000 in
theorem az_co_J0_isLatin1_aae02 : az_codeok az_m_J0_isLatin1_aae02 = true := by decide +kernel
set_option maxRecDepth 100000 in
theorem az_co_J1_charAt_3b067 : az_codeok az_m_J1_charAt_3b067 = true := by decide +kernel
set_option maxRecDepth 100000 in
theorem az_co_J1_canEncode_9a6ad : az_codeok az_m_J1_canEncode_9a6ad = true := by decide +kernel
set_option maxRecDepth 100000 in
theorem az_co_J1_indexOf_4cfef : az_codeok az_m_J1_indexOf_4cfef = true := by decide +kernel
set_option maxRecDepth 100000 in
theorem az_co_J1_indexOfChar_4cfef : az_codeok az_m_J1_indexOfChar_4cfef = true := by decide +kernel
set_option maxRecDepth 100000 in
theorem az_co_J0_checkIndex_df160 : az_codeok az_m_J0_checkIndex_df160 = true := by decide +kernel
set_option maxRecDepth 100000 in
theorem az_co_J3_checkIndex_8e157 : az_codeok az_m_J3_checkIndex_8e157 = true := by decide +kernel
end
section
/-! the law's own code, in pieces -/
def az_codeokP (M : az_M) (l : List (Nat × Instr × Nat)) : Bool := l.all fun q => decide (decode (az_by M) q.1 = .ok (q.2.1, q.2.2)) && (az_insok q.1 q.2.1 q.2.2 && az_room M q.2.1)
theorem az_codeokP_app {M : az_M} {a b : List (Nat × Instr × Nat)} (ha : az_codeokP M a = true) (hb : az_codeokP M b = true) : az_codeokP M (a ++ b) = true := by
  simp only [az_codeokP, List.all_append, Bool.and_eq_true] at *
  exact ⟨ha, hb⟩
def az_lc0 : List (Nat × Instr × Nat) := [(0, .new 7, 3), (3, .dup, 1), (4, .invokespecial 9, 3), (7, .astore_n 1, 1), (8, .new 10, 3), (11, .dup, 1), (12, .invokespecial 12, 3), (15, .astore_n 2, 1), (16, .iconst 0, 1), (17, .istore_n 3, 1), (18, .iload_n 3, 1), (19, .aload_n 0, 1), (20, .arraylength, 1), (21, .iconst 5, 1), (22, .isub, 1), (23, .if_icmp .gt 828, 3), (26, .aload_n 0, 1), (27, .iload_n 3, 1), (28, .iaload, 1), (29, .bipush 31, 2), (31, .iand, 1), (32, .tableswitch 813 0 30 #[140, 163, 176, 209, 242, 265, 288, 301, 314, 337, 360, 383, 406, 429, 452, 465, 498, 511, 534, 557, 570, 583, 596, 649, 672, 695, 728, 751, 764, 777, 790], 140), (172, .aload_n 1, 1), (173, .aload_n 0, 1), (174, .iload_n 3, 1), (175, .iconst 1, 1), (176, .iadd, 1), (177, .iaload, 1), (178, .invokevirtual 13, 3), (181, .aload_n 2, 1), (182, .aload_n 0, 1), (183, .iload_n 3, 1), (184, .iconst 1, 1), (185, .iadd, 1), (186, .iaload, 1), (187, .invokevirtual 17, 3), (190, .if_icmp .eq 655, 3), (193, .iconst 0, 1), (194, .ireturn, 1), (195, .aload_n 1, 1)]
set_option maxRecDepth 100000 in
theorem az_lc0_ok : az_codeokP az_m_L_law az_lc0 = true := by decide +kernel
def az_lc1 : List (Nat × Instr × Nat) := [(196, .invokevirtual 18, 3), (199, .aload_n 2, 1), (200, .invokevirtual 22, 3), (203, .if_icmp .eq 642, 3), (206, .iconst 0, 1), (207, .ireturn, 1), (208, .aload_n 1, 1), (209, .aload_n 0, 1), (210, .iload_n 3, 1), (211, .iconst 1, 1), (212, .iadd, 1), (213, .iaload, 1), (214, .aload_n 0, 1), (215, .iload_n 3, 1), (216, .iconst 2, 1), (217, .iadd, 1), (218, .iaload, 1), (219, .invokevirtual 23, 3), (222, .aload_n 2, 1), (223, .aload_n 0, 1), (224, .iload_n 3, 1), (225, .iconst 1, 1), (226, .iadd, 1), (227, .iaload, 1), (228, .aload_n 0, 1), (229, .iload_n 3, 1), (230, .iconst 2, 1), (231, .iadd, 1), (232, .iaload, 1), (233, .invokevirtual 27, 3), (236, .if_icmp .eq 609, 3), (239, .iconst 0, 1), (240, .ireturn, 1), (241, .aload_n 1, 1), (242, .aload_n 0, 1), (243, .iload_n 3, 1), (244, .iconst 1, 1), (245, .iadd, 1), (246, .iaload, 1), (247, .aload_n 0, 1)]
set_option maxRecDepth 100000 in
theorem az_lc1_ok : az_codeokP az_m_L_law az_lc1 = true := by decide +kernel
def az_lc2 : List (Nat × Instr × Nat) := [(248, .iload_n 3, 1), (249, .iconst 2, 1), (250, .iadd, 1), (251, .iaload, 1), (252, .invokevirtual 28, 3), (255, .aload_n 2, 1), (256, .aload_n 0, 1), (257, .iload_n 3, 1), (258, .iconst 1, 1), (259, .iadd, 1), (260, .iaload, 1), (261, .aload_n 0, 1), (262, .iload_n 3, 1), (263, .iconst 2, 1), (264, .iadd, 1), (265, .iaload, 1), (266, .invokevirtual 31, 3), (269, .if_icmp .eq 576, 3), (272, .iconst 0, 1), (273, .ireturn, 1), (274, .aload_n 1, 1), (275, .aload_n 0, 1), (276, .iload_n 3, 1), (277, .iconst 1, 1), (278, .iadd, 1), (279, .iaload, 1), (280, .invokevirtual 32, 3), (283, .aload_n 2, 1), (284, .aload_n 0, 1), (285, .iload_n 3, 1), (286, .iconst 1, 1), (287, .iadd, 1), (288, .iaload, 1), (289, .invokevirtual 35, 3), (292, .if_icmp .eq 553, 3), (295, .iconst 0, 1), (296, .ireturn, 1), (297, .aload_n 1, 1), (298, .aload_n 0, 1), (299, .iload_n 3, 1)]
set_option maxRecDepth 100000 in
theorem az_lc2_ok : az_codeokP az_m_L_law az_lc2 = true := by decide +kernel
def az_lc3 : List (Nat × Instr × Nat) := [(300, .iconst 1, 1), (301, .iadd, 1), (302, .iaload, 1), (303, .invokevirtual 36, 3), (306, .aload_n 2, 1), (307, .aload_n 0, 1), (308, .iload_n 3, 1), (309, .iconst 1, 1), (310, .iadd, 1), (311, .iaload, 1), (312, .invokevirtual 39, 3), (315, .if_icmp .eq 530, 3), (318, .iconst 0, 1), (319, .ireturn, 1), (320, .aload_n 1, 1), (321, .invokevirtual 40, 3), (324, .aload_n 2, 1), (325, .invokevirtual 43, 3), (328, .if_icmp .eq 517, 3), (331, .iconst 0, 1), (332, .ireturn, 1), (333, .aload_n 1, 1), (334, .invokevirtual 44, 3), (337, .aload_n 2, 1), (338, .invokevirtual 47, 3), (341, .if_icmp .eq 504, 3), (344, .iconst 0, 1), (345, .ireturn, 1), (346, .aload_n 1, 1), (347, .aload_n 0, 1), (348, .iload_n 3, 1), (349, .iconst 1, 1), (350, .iadd, 1), (351, .iaload, 1), (352, .invokevirtual 48, 3), (355, .aload_n 2, 1), (356, .aload_n 0, 1), (357, .iload_n 3, 1), (358, .iconst 1, 1), (359, .iadd, 1)]
set_option maxRecDepth 100000 in
theorem az_lc3_ok : az_codeokP az_m_L_law az_lc3 = true := by decide +kernel
def az_lc4 : List (Nat × Instr × Nat) := [(360, .iaload, 1), (361, .invokevirtual 51, 3), (364, .if_icmp .eq 481, 3), (367, .iconst 0, 1), (368, .ireturn, 1), (369, .aload_n 1, 1), (370, .aload_n 0, 1), (371, .iload_n 3, 1), (372, .iconst 1, 1), (373, .iadd, 1), (374, .iaload, 1), (375, .invokevirtual 52, 3), (378, .aload_n 2, 1), (379, .aload_n 0, 1), (380, .iload_n 3, 1), (381, .iconst 1, 1), (382, .iadd, 1), (383, .iaload, 1), (384, .invokevirtual 55, 3), (387, .if_icmp .eq 458, 3), (390, .iconst 0, 1), (391, .ireturn, 1), (392, .aload_n 1, 1), (393, .aload_n 0, 1), (394, .iload_n 3, 1), (395, .iconst 1, 1), (396, .iadd, 1), (397, .iaload, 1), (398, .invokevirtual 56, 3), (401, .aload_n 2, 1), (402, .aload_n 0, 1), (403, .iload_n 3, 1), (404, .iconst 1, 1), (405, .iadd, 1), (406, .iaload, 1), (407, .invokevirtual 59, 3), (410, .if_icmp .eq 435, 3), (413, .iconst 0, 1), (414, .ireturn, 1), (415, .aload_n 1, 1)]
set_option maxRecDepth 100000 in
theorem az_lc4_ok : az_codeokP az_m_L_law az_lc4 = true := by decide +kernel
def az_lc5 : List (Nat × Instr × Nat) := [(416, .aload_n 0, 1), (417, .iload_n 3, 1), (418, .iconst 1, 1), (419, .iadd, 1), (420, .iaload, 1), (421, .invokevirtual 60, 3), (424, .aload_n 2, 1), (425, .aload_n 0, 1), (426, .iload_n 3, 1), (427, .iconst 1, 1), (428, .iadd, 1), (429, .iaload, 1), (430, .invokevirtual 63, 3), (433, .if_icmp .eq 412, 3), (436, .iconst 0, 1), (437, .ireturn, 1), (438, .aload_n 1, 1), (439, .aload_n 0, 1), (440, .iload_n 3, 1), (441, .iconst 1, 1), (442, .iadd, 1), (443, .iaload, 1), (444, .invokevirtual 64, 3), (447, .aload_n 2, 1), (448, .aload_n 0, 1), (449, .iload_n 3, 1), (450, .iconst 1, 1), (451, .iadd, 1), (452, .iaload, 1), (453, .invokevirtual 67, 3), (456, .if_icmp .eq 389, 3), (459, .iconst 0, 1), (460, .ireturn, 1), (461, .aload_n 1, 1), (462, .aload_n 0, 1), (463, .iload_n 3, 1), (464, .iconst 1, 1), (465, .iadd, 1), (466, .iaload, 1), (467, .invokevirtual 68, 3)]
set_option maxRecDepth 100000 in
theorem az_lc5_ok : az_codeokP az_m_L_law az_lc5 = true := by decide +kernel
def az_lc6 : List (Nat × Instr × Nat) := [(470, .aload_n 2, 1), (471, .aload_n 0, 1), (472, .iload_n 3, 1), (473, .iconst 1, 1), (474, .iadd, 1), (475, .iaload, 1), (476, .invokevirtual 71, 3), (479, .if_icmp .eq 366, 3), (482, .iconst 0, 1), (483, .ireturn, 1), (484, .aload_n 1, 1), (485, .invokevirtual 72, 3), (488, .aload_n 2, 1), (489, .invokevirtual 75, 3), (492, .if_icmp .eq 353, 3), (495, .iconst 0, 1), (496, .ireturn, 1), (497, .aload_n 1, 1), (498, .aload_n 0, 1), (499, .iload_n 3, 1), (500, .iconst 1, 1), (501, .iadd, 1), (502, .iaload, 1), (503, .aload_n 0, 1), (504, .iload_n 3, 1), (505, .iconst 2, 1), (506, .iadd, 1), (507, .iaload, 1), (508, .invokevirtual 76, 3), (511, .aload_n 2, 1), (512, .aload_n 0, 1), (513, .iload_n 3, 1), (514, .iconst 1, 1), (515, .iadd, 1), (516, .iaload, 1), (517, .aload_n 0, 1), (518, .iload_n 3, 1), (519, .iconst 2, 1), (520, .iadd, 1), (521, .iaload, 1)]
set_option maxRecDepth 100000 in
theorem az_lc6_ok : az_codeokP az_m_L_law az_lc6 = true := by decide +kernel
def az_lc7 : List (Nat × Instr × Nat) := [(522, .invokevirtual 79, 3), (525, .if_icmp .eq 320, 3), (528, .iconst 0, 1), (529, .ireturn, 1), (530, .aload_n 1, 1), (531, .invokevirtual 80, 3), (534, .aload_n 2, 1), (535, .invokevirtual 83, 3), (538, .if_icmp .eq 307, 3), (541, .iconst 0, 1), (542, .ireturn, 1), (543, .aload_n 1, 1), (544, .aload_n 0, 1), (545, .iload_n 3, 1), (546, .iconst 1, 1), (547, .iadd, 1), (548, .iaload, 1), (549, .invokevirtual 84, 3), (552, .aload_n 2, 1), (553, .aload_n 0, 1), (554, .iload_n 3, 1), (555, .iconst 1, 1), (556, .iadd, 1), (557, .iaload, 1), (558, .invokevirtual 87, 3), (561, .if_icmp .eq 284, 3), (564, .iconst 0, 1), (565, .ireturn, 1), (566, .aload_n 1, 1), (567, .aload_n 0, 1), (568, .iload_n 3, 1), (569, .iconst 1, 1), (570, .iadd, 1), (571, .iaload, 1), (572, .invokevirtual 88, 3), (575, .aload_n 2, 1), (576, .aload_n 0, 1), (577, .iload_n 3, 1), (578, .iconst 1, 1), (579, .iadd, 1)]
set_option maxRecDepth 100000 in
theorem az_lc7_ok : az_codeokP az_m_L_law az_lc7 = true := by decide +kernel
def az_lc8 : List (Nat × Instr × Nat) := [(580, .iaload, 1), (581, .invokevirtual 91, 3), (584, .if_icmp .eq 261, 3), (587, .iconst 0, 1), (588, .ireturn, 1), (589, .aload_n 1, 1), (590, .invokevirtual 92, 3), (593, .aload_n 2, 1), (594, .invokevirtual 95, 3), (597, .if_icmp .eq 248, 3), (600, .iconst 0, 1), (601, .ireturn, 1), (602, .aload_n 1, 1), (603, .invokevirtual 96, 3), (606, .aload_n 2, 1), (607, .invokevirtual 99, 3), (610, .if_icmp .eq 235, 3), (613, .iconst 0, 1), (614, .ireturn, 1), (615, .aload_n 1, 1), (616, .invokevirtual 100, 3), (619, .aload_n 2, 1), (620, .invokevirtual 103, 3), (623, .if_icmp .eq 222, 3), (626, .iconst 0, 1), (627, .ireturn, 1), (628, .aload_n 1, 1), (629, .aload_n 0, 1), (630, .iload_n 3, 1), (631, .iconst 1, 1), (632, .iadd, 1), (633, .iaload, 1), (634, .aload_n 0, 1), (635, .iload_n 3, 1), (636, .iconst 2, 1), (637, .iadd, 1), (638, .iaload, 1), (639, .aload_n 0, 1), (640, .iload_n 3, 1), (641, .iconst 3, 1)]
set_option maxRecDepth 100000 in
theorem az_lc8_ok : az_codeokP az_m_L_law az_lc8 = true := by decide +kernel
def az_lc9 : List (Nat × Instr × Nat) := [(642, .iadd, 1), (643, .iaload, 1), (644, .aload_n 0, 1), (645, .iload_n 3, 1), (646, .iconst 4, 1), (647, .iadd, 1), (648, .iaload, 1), (649, .invokevirtual 104, 3), (652, .aload_n 2, 1), (653, .aload_n 0, 1), (654, .iload_n 3, 1), (655, .iconst 1, 1), (656, .iadd, 1), (657, .iaload, 1), (658, .aload_n 0, 1), (659, .iload_n 3, 1), (660, .iconst 2, 1), (661, .iadd, 1), (662, .iaload, 1), (663, .aload_n 0, 1), (664, .iload_n 3, 1), (665, .iconst 3, 1), (666, .iadd, 1), (667, .iaload, 1), (668, .aload_n 0, 1), (669, .iload_n 3, 1), (670, .iconst 4, 1), (671, .iadd, 1), (672, .iaload, 1), (673, .invokevirtual 108, 3), (676, .if_icmp .eq 169, 3), (679, .iconst 0, 1), (680, .ireturn, 1), (681, .aload_n 1, 1), (682, .aload_n 0, 1), (683, .iload_n 3, 1), (684, .iconst 1, 1), (685, .iadd, 1), (686, .iaload, 1), (687, .invokevirtual 109, 3)]
set_option maxRecDepth 100000 in
theorem az_lc9_ok : az_codeokP az_m_L_law az_lc9 = true := by decide +kernel
def az_lc10 : List (Nat × Instr × Nat) := [(690, .aload_n 2, 1), (691, .aload_n 0, 1), (692, .iload_n 3, 1), (693, .iconst 1, 1), (694, .iadd, 1), (695, .iaload, 1), (696, .invokevirtual 112, 3), (699, .if_icmp .eq 146, 3), (702, .iconst 0, 1), (703, .ireturn, 1), (704, .aload_n 1, 1), (705, .aload_n 0, 1), (706, .iload_n 3, 1), (707, .iconst 1, 1), (708, .iadd, 1), (709, .iaload, 1), (710, .invokevirtual 113, 3), (713, .aload_n 2, 1), (714, .aload_n 0, 1), (715, .iload_n 3, 1), (716, .iconst 1, 1), (717, .iadd, 1), (718, .iaload, 1), (719, .invokevirtual 116, 3), (722, .if_icmp .eq 123, 3), (725, .iconst 0, 1), (726, .ireturn, 1), (727, .aload_n 1, 1), (728, .aload_n 0, 1), (729, .iload_n 3, 1), (730, .iconst 1, 1), (731, .iadd, 1), (732, .iaload, 1), (733, .aload_n 0, 1), (734, .iload_n 3, 1), (735, .iconst 2, 1), (736, .iadd, 1), (737, .iaload, 1), (738, .invokevirtual 117, 3), (741, .aload_n 2, 1)]
set_option maxRecDepth 100000 in
theorem az_lc10_ok : az_codeokP az_m_L_law az_lc10 = true := by decide +kernel
def az_lc11 : List (Nat × Instr × Nat) := [(742, .aload_n 0, 1), (743, .iload_n 3, 1), (744, .iconst 1, 1), (745, .iadd, 1), (746, .iaload, 1), (747, .aload_n 0, 1), (748, .iload_n 3, 1), (749, .iconst 2, 1), (750, .iadd, 1), (751, .iaload, 1), (752, .invokevirtual 120, 3), (755, .if_icmp .eq 90, 3), (758, .iconst 0, 1), (759, .ireturn, 1), (760, .aload_n 1, 1), (761, .aload_n 0, 1), (762, .iload_n 3, 1), (763, .iconst 1, 1), (764, .iadd, 1), (765, .iaload, 1), (766, .invokevirtual 121, 3), (769, .aload_n 2, 1), (770, .aload_n 0, 1), (771, .iload_n 3, 1), (772, .iconst 1, 1), (773, .iadd, 1), (774, .iaload, 1), (775, .invokevirtual 124, 3), (778, .if_icmp .eq 67, 3), (781, .iconst 0, 1), (782, .ireturn, 1), (783, .aload_n 1, 1), (784, .invokevirtual 125, 3), (787, .aload_n 2, 1), (788, .invokevirtual 128, 3), (791, .if_icmp .eq 54, 3), (794, .iconst 0, 1), (795, .ireturn, 1), (796, .aload_n 1, 1), (797, .invokevirtual 129, 3)]
set_option maxRecDepth 100000 in
theorem az_lc11_ok : az_codeokP az_m_L_law az_lc11 = true := by decide +kernel
def az_lc12 : List (Nat × Instr × Nat) := [(800, .aload_n 2, 1), (801, .invokevirtual 132, 3), (804, .if_icmp .eq 41, 3), (807, .iconst 0, 1), (808, .ireturn, 1), (809, .aload_n 1, 1), (810, .invokevirtual 133, 3), (813, .aload_n 2, 1), (814, .invokevirtual 136, 3), (817, .if_icmp .eq 28, 3), (820, .iconst 0, 1), (821, .ireturn, 1), (822, .aload_n 1, 1), (823, .aload_n 0, 1), (824, .iload_n 3, 1), (825, .iconst 1, 1), (826, .iadd, 1), (827, .iaload, 1), (828, .invokevirtual 137, 3), (831, .aload_n 2, 1), (832, .aload_n 0, 1), (833, .iload_n 3, 1), (834, .iconst 1, 1), (835, .iadd, 1), (836, .iaload, 1), (837, .invokevirtual 140, 3), (840, .if_icmp .eq 5, 3), (843, .iconst 0, 1), (844, .ireturn, 1), (845, .iinc 3 5, 3), (848, .goto (-830), 3), (851, .iconst 1, 1), (852, .ireturn, 1)]
set_option maxRecDepth 100000 in
theorem az_lc12_ok : az_codeokP az_m_L_law az_lc12 = true := by decide +kernel
set_option maxRecDepth 100000 in
theorem az_co_L_law : az_codeok az_m_L_law = true := show az_codeokP az_m_L_law (az_lc0 ++ (az_lc1 ++ (az_lc2 ++ (az_lc3 ++ (az_lc4 ++ (az_lc5 ++ (az_lc6 ++ (az_lc7 ++ (az_lc8 ++ (az_lc9 ++ (az_lc10 ++ (az_lc11 ++ (az_lc12))))))))))))) = true from az_codeokP_app az_lc0_ok (az_codeokP_app az_lc1_ok (az_codeokP_app az_lc2_ok (az_codeokP_app az_lc3_ok (az_codeokP_app az_lc4_ok (az_codeokP_app az_lc5_ok (az_codeokP_app az_lc6_ok (az_codeokP_app az_lc7_ok (az_codeokP_app az_lc8_ok (az_codeokP_app az_lc9_ok (az_codeokP_app az_lc10_ok (az_codeokP_app az_lc11_ok (az_lc12_ok))))))))))))
end
section
/-! THE LINKS: each word of the tables that a step asks for -/
def az_isN : Cond → Bool
  | .fieldLinkNest .. => true
  | .methodLinkNest .. => true
  | _ => false
def az_nest : List Cond := tables_1.filter az_isN
theorem az_inn {w : Cond} (i : Nat) (h : tables_1[i]? = some w) (g : az_isN w = true) : w ∈ az_nest := List.mem_filter.mpr ⟨List.mem_of_getElem? h, g⟩
def az_T : Nat → u_T
  | 0 => TX0
  | 1 => TX1
  | 2 => TX2
  | 3 => TX3
  | 4 => TX4
  | 5 => TX5
  | 6 => TX6
  | 7 => TX7
  | 8 => TX8
  | _ => fun k => match k with
    | 0 => ("java/lang/String", "value", "[B", true)
    | _ => ("java/lang/String", "coder", "B", true)
def az_flp (c k ci j : Nat) : Prop := Cond.fieldLink (az_own c) k (az_own ci) (az_T ci j).2.1 (az_T ci j).2.2.1 ∈ az_wg ∨ ∃ host, Cond.fieldLinkNest (az_own c) k (az_own ci) (az_T ci j).2.1 (az_T ci j).2.2.1 host ∈ az_nest
/-- a method: what the tables say of it; np: its parameters; st: whether it's static -/
def az_mp (M : az_M) (np : Nat) (st : Bool) : Prop := Cond.code (az_y M) (az_by M) (az_nl M) (az_rt M) ∈ az_wg ∧ Cond.initialized (az_y M).cls ∈ az_wg ∧ (parseMethodDescriptor (az_y M).desc).map (fun d => d.parameters.length) = some np ∧ (az_y M).cls = az_own M.1 ∧ (az_y M).cls ≠ "java/lang/invoke/MethodHandle" ∧ (az_y M).cls ≠ "java/lang/invoke/VarHandle" ∧ plainName (az_y M).cls = true ∧ (st = false → Cond.instanceMethod (az_y M) ∈ az_wg ∧ Cond.selects (az_y M).cls (az_y M) (az_y M) ∈ az_wg) ∧ (st = true → Cond.static (az_y M) ∈ az_wg) ∧ az_codeok M = true
def az_mlp (c k tag : Nat) (C : az_M) (na : Nat) : Prop := ∃ np st, az_mp C np st ∧ ((tag = 0 ∧ st = false ∧ na = np + 1 ∧ Cond.methodLink (az_own c) k (az_y C) ∈ az_wg) ∨ (tag = 1 ∧ st = false ∧ na = np + 1 ∧ ∃ host, Cond.methodLinkNest (az_own c) k (az_y C) host ∈ az_nest) ∨ (tag = 2 ∧ st = true ∧ na = np ∧ Cond.methodLink (az_own c) k (az_y C) ∈ az_wg) ∨ (tag = 3 ∧ st = true ∧ na = np ∧ ∃ host, Cond.methodLinkNest (az_own c) k (az_y C) host ∈ az_nest))
set_option maxRecDepth 100000 in
theorem az_inX0 : ∀ w ∈ wsX00, w ∈ az_wg := List.forall_mem_cons.mpr ⟨az_int 195 (by decide +kernel) rfl, List.forall_mem_cons.mpr ⟨az_int 197 (by decide +kernel) rfl, List.forall_mem_cons.mpr ⟨az_int 199 (by decide +kernel) rfl, List.forall_mem_cons.mpr ⟨az_int 201 (by decide +kernel) rfl, List.forall_mem_cons.mpr ⟨az_int 203 (by decide +kernel) rfl, List.forall_mem_cons.mpr ⟨az_int 205 (by decide +kernel) rfl, List.forall_mem_cons.mpr ⟨az_int 207 (by decide +kernel) rfl, List.forall_mem_cons.mpr ⟨az_int 209 (by decide +kernel) rfl, fun _ h => absurd h List.not_mem_nil⟩⟩⟩⟩⟩⟩⟩⟩
set_option maxRecDepth 100000 in
theorem az_inX1 : ∀ w ∈ wsX10, w ∈ az_wg := List.forall_mem_cons.mpr ⟨az_int 116 (by decide +kernel) rfl, List.forall_mem_cons.mpr ⟨az_int 118 (by decide +kernel) rfl, fun _ h => absurd h List.not_mem_nil⟩⟩
set_option maxRecDepth 100000 in
theorem az_inX2 : ∀ w ∈ wsX20, w ∈ az_wg := List.forall_mem_cons.mpr ⟨az_int 217 (by decide +kernel) rfl, List.forall_mem_cons.mpr ⟨az_int 219 (by decide +kernel) rfl, List.forall_mem_cons.mpr ⟨az_int 221 (by decide +kernel) rfl, List.forall_mem_cons.mpr ⟨az_int 223 (by decide +kernel) rfl, fun _ h => absurd h List.not_mem_nil⟩⟩⟩⟩
set_option maxRecDepth 100000 in
theorem az_inX3 : ∀ w ∈ wsX30, w ∈ az_wg := List.forall_mem_cons.mpr ⟨az_int 96 (by decide +kernel) rfl, List.forall_mem_cons.mpr ⟨az_int 98 (by decide +kernel) rfl, List.forall_mem_cons.mpr ⟨az_int 100 (by decide +kernel) rfl, List.forall_mem_cons.mpr ⟨az_int 102 (by decide +kernel) rfl, fun _ h => absurd h List.not_mem_nil⟩⟩⟩⟩
set_option maxRecDepth 100000 in
theorem az_inX4 : ∀ w ∈ wsX40, w ∈ az_wg := List.forall_mem_cons.mpr ⟨az_int 62 (by decide +kernel) rfl, List.forall_mem_cons.mpr ⟨az_int 64 (by decide +kernel) rfl, List.forall_mem_cons.mpr ⟨az_int 66 (by decide +kernel) rfl, List.forall_mem_cons.mpr ⟨az_int 68 (by decide +kernel) rfl, List.forall_mem_cons.mpr ⟨az_int 70 (by decide +kernel) rfl, List.forall_mem_cons.mpr ⟨az_int 72 (by decide +kernel) rfl, List.forall_mem_cons.mpr ⟨az_int 74 (by decide +kernel) rfl, fun _ h => absurd h List.not_mem_nil⟩⟩⟩⟩⟩⟩⟩
set_option maxRecDepth 100000 in
theorem az_inX5 : ∀ w ∈ wsX50, w ∈ az_wg := List.forall_mem_cons.mpr ⟨az_int 168 (by decide +kernel) rfl, List.forall_mem_cons.mpr ⟨az_int 170 (by decide +kernel) rfl, fun _ h => absurd h List.not_mem_nil⟩⟩
set_option maxRecDepth 100000 in
theorem az_inX6 : ∀ w ∈ wsX60, w ∈ az_wg := List.forall_mem_cons.mpr ⟨az_int 140 (by decide +kernel) rfl, List.forall_mem_cons.mpr ⟨az_int 142 (by decide +kernel) rfl, List.forall_mem_cons.mpr ⟨az_int 144 (by decide +kernel) rfl, List.forall_mem_cons.mpr ⟨az_int 146 (by decide +kernel) rfl, List.forall_mem_cons.mpr ⟨az_int 148 (by decide +kernel) rfl, List.forall_mem_cons.mpr ⟨az_int 150 (by decide +kernel) rfl, List.forall_mem_cons.mpr ⟨az_int 152 (by decide +kernel) rfl, List.forall_mem_cons.mpr ⟨az_int 154 (by decide +kernel) rfl, List.forall_mem_cons.mpr ⟨az_int 156 (by decide +kernel) rfl, fun _ h => absurd h List.not_mem_nil⟩⟩⟩⟩⟩⟩⟩⟩⟩
set_option maxRecDepth 100000 in
theorem az_inX7 : ∀ w ∈ wsX70, w ∈ az_wg := List.forall_mem_cons.mpr ⟨az_int 237 (by decide +kernel) rfl, List.forall_mem_cons.mpr ⟨az_int 239 (by decide +kernel) rfl, List.forall_mem_cons.mpr ⟨az_int 241 (by decide +kernel) rfl, List.forall_mem_cons.mpr ⟨az_int 243 (by decide +kernel) rfl, List.forall_mem_cons.mpr ⟨az_int 245 (by decide +kernel) rfl, List.forall_mem_cons.mpr ⟨az_int 247 (by decide +kernel) rfl, List.forall_mem_cons.mpr ⟨az_int 249 (by decide +kernel) rfl, List.forall_mem_cons.mpr ⟨az_int 251 (by decide +kernel) rfl, List.forall_mem_cons.mpr ⟨az_int 253 (by decide +kernel) rfl, List.forall_mem_cons.mpr ⟨az_int 255 (by decide +kernel) rfl, List.forall_mem_cons.mpr ⟨az_int 257 (by decide +kernel) rfl, fun _ h => absurd h List.not_mem_nil⟩⟩⟩⟩⟩⟩⟩⟩⟩⟩⟩
set_option maxRecDepth 100000 in
theorem az_inX8 : ∀ w ∈ wsX80, w ∈ az_wg := List.forall_mem_cons.mpr ⟨az_int 883 (by decide +kernel) rfl, List.forall_mem_cons.mpr ⟨az_int 885 (by decide +kernel) rfl, List.forall_mem_cons.mpr ⟨az_int 887 (by decide +kernel) rfl, List.forall_mem_cons.mpr ⟨az_int 889 (by decide +kernel) rfl, List.forall_mem_cons.mpr ⟨az_int 891 (by decide +kernel) rfl, List.forall_mem_cons.mpr ⟨az_int 893 (by decide +kernel) rfl, List.forall_mem_cons.mpr ⟨az_int 895 (by decide +kernel) rfl, List.forall_mem_cons.mpr ⟨az_int 897 (by decide +kernel) rfl, List.forall_mem_cons.mpr ⟨az_int 899 (by decide +kernel) rfl, List.forall_mem_cons.mpr ⟨az_int 901 (by decide +kernel) rfl, List.forall_mem_cons.mpr ⟨az_int 903 (by decide +kernel) rfl, List.forall_mem_cons.mpr ⟨az_int 905 (by decide +kernel) rfl, List.forall_mem_cons.mpr ⟨az_int 907 (by decide +kernel) rfl, List.forall_mem_cons.mpr ⟨az_int 909 (by decide +kernel) rfl, List.forall_mem_cons.mpr ⟨az_int 911 (by decide +kernel) rfl, List.forall_mem_cons.mpr ⟨az_int 913 (by decide +kernel) rfl, List.forall_mem_cons.mpr ⟨az_int 915 (by decide +kernel) rfl, List.forall_mem_cons.mpr ⟨az_int 917 (by decide +kernel) rfl, List.forall_mem_cons.mpr ⟨az_int 919 (by decide +kernel) rfl, List.forall_mem_cons.mpr ⟨az_int 921 (by decide +kernel) rfl, List.forall_mem_cons.mpr ⟨az_int 923 (by decide +kernel) rfl, List.forall_mem_cons.mpr ⟨az_int 925 (by decide +kernel) rfl, List.forall_mem_cons.mpr ⟨az_int 927 (by decide +kernel) rfl, List.forall_mem_cons.mpr ⟨az_int 929 (by decide +kernel) rfl, List.forall_mem_cons.mpr ⟨az_int 931 (by decide +kernel) rfl, List.forall_mem_cons.mpr ⟨az_int 933 (by decide +kernel) rfl, List.forall_mem_cons.mpr ⟨az_int 935 (by decide +kernel) rfl, fun _ h => absurd h List.not_mem_nil⟩⟩⟩⟩⟩⟩⟩⟩⟩⟩⟩⟩⟩⟩⟩⟩⟩⟩⟩⟩⟩⟩⟩⟩⟩⟩⟩
set_option maxRecDepth 100000 in
theorem az_fl_0_ok : ∀ q ∈ az_fl_0, az_flp 0 q.1 q.2.1 q.2.2 := List.forall_mem_cons.mpr ⟨Or.inl (az_int 185 (by decide +kernel) rfl), List.forall_mem_cons.mpr ⟨Or.inl (az_int 187 (by decide +kernel) rfl), List.forall_mem_cons.mpr ⟨Or.inl (az_int 188 (by decide +kernel) rfl), List.forall_mem_cons.mpr ⟨Or.inl (az_int 189 (by decide +kernel) rfl), List.forall_mem_cons.mpr ⟨Or.inl (az_int 190 (by decide +kernel) rfl), List.forall_mem_cons.mpr ⟨Or.inl (az_int 192 (by decide +kernel) rfl), List.forall_mem_cons.mpr ⟨Or.inl (az_int 193 (by decide +kernel) rfl), List.forall_mem_cons.mpr ⟨Or.inl (az_int 194 (by decide +kernel) rfl), fun _ h => absurd h List.not_mem_nil⟩⟩⟩⟩⟩⟩⟩⟩
set_option maxRecDepth 100000 in
theorem az_fl_1_ok : ∀ q ∈ az_fl_1, az_flp 1 q.1 q.2.1 q.2.2 := List.forall_mem_cons.mpr ⟨Or.inl (az_int 111 (by decide +kernel) rfl), List.forall_mem_cons.mpr ⟨Or.inl (az_int 113 (by decide +kernel) rfl), fun _ h => absurd h List.not_mem_nil⟩⟩
set_option maxRecDepth 100000 in
theorem az_fl_2_ok : ∀ q ∈ az_fl_2, az_flp 2 q.1 q.2.1 q.2.2 := List.forall_mem_cons.mpr ⟨Or.inl (az_int 212 (by decide +kernel) rfl), List.forall_mem_cons.mpr ⟨Or.inl (az_int 213 (by decide +kernel) rfl), List.forall_mem_cons.mpr ⟨Or.inl (az_int 215 (by decide +kernel) rfl), List.forall_mem_cons.mpr ⟨Or.inl (az_int 216 (by decide +kernel) rfl), List.forall_mem_cons.mpr ⟨Or.inr ⟨"GoodHalfEmpty", az_inn 186 (by decide +kernel) rfl⟩, List.forall_mem_cons.mpr ⟨Or.inr ⟨"GoodHalfEmpty", az_inn 191 (by decide +kernel) rfl⟩, List.forall_mem_cons.mpr ⟨Or.inr ⟨"GoodHalfEmpty", az_inn 59 (by decide +kernel) rfl⟩, List.forall_mem_cons.mpr ⟨Or.inr ⟨"GoodHalfEmpty", az_inn 52 (by decide +kernel) rfl⟩, List.forall_mem_cons.mpr ⟨Or.inr ⟨"GoodHalfEmpty", az_inn 48 (by decide +kernel) rfl⟩, List.forall_mem_cons.mpr ⟨Or.inr ⟨"GoodHalfEmpty", az_inn 38 (by decide +kernel) rfl⟩, List.forall_mem_cons.mpr ⟨Or.inr ⟨"GoodHalfEmpty", az_inn 56 (by decide +kernel) rfl⟩, fun _ h => absurd h List.not_mem_nil⟩⟩⟩⟩⟩⟩⟩⟩⟩⟩⟩
set_option maxRecDepth 100000 in
theorem az_fl_3_ok : ∀ q ∈ az_fl_3, az_flp 3 q.1 q.2.1 q.2.2 := List.forall_mem_cons.mpr ⟨Or.inl (az_int 84 (by decide +kernel) rfl), List.forall_mem_cons.mpr ⟨Or.inl (az_int 87 (by decide +kernel) rfl), List.forall_mem_cons.mpr ⟨Or.inl (az_int 90 (by decide +kernel) rfl), List.forall_mem_cons.mpr ⟨Or.inl (az_int 93 (by decide +kernel) rfl), fun _ h => absurd h List.not_mem_nil⟩⟩⟩⟩
set_option maxRecDepth 100000 in
theorem az_fl_4_ok : ∀ q ∈ az_fl_4, az_flp 4 q.1 q.2.1 q.2.2 := List.forall_mem_cons.mpr ⟨Or.inl (az_int 36 (by decide +kernel) rfl), List.forall_mem_cons.mpr ⟨Or.inl (az_int 40 (by decide +kernel) rfl), List.forall_mem_cons.mpr ⟨Or.inl (az_int 43 (by decide +kernel) rfl), List.forall_mem_cons.mpr ⟨Or.inl (az_int 46 (by decide +kernel) rfl), List.forall_mem_cons.mpr ⟨Or.inl (az_int 50 (by decide +kernel) rfl), List.forall_mem_cons.mpr ⟨Or.inl (az_int 54 (by decide +kernel) rfl), List.forall_mem_cons.mpr ⟨Or.inl (az_int 58 (by decide +kernel) rfl), fun _ h => absurd h List.not_mem_nil⟩⟩⟩⟩⟩⟩⟩
set_option maxRecDepth 100000 in
theorem az_fl_5_ok : ∀ q ∈ az_fl_5, az_flp 5 q.1 q.2.1 q.2.2 := List.forall_mem_cons.mpr ⟨Or.inl (az_int 165 (by decide +kernel) rfl), List.forall_mem_cons.mpr ⟨Or.inl (az_int 166 (by decide +kernel) rfl), List.forall_mem_cons.mpr ⟨Or.inr ⟨"GoodHalfEmpty", az_inn 126 (by decide +kernel) rfl⟩, List.forall_mem_cons.mpr ⟨Or.inr ⟨"GoodHalfEmpty", az_inn 123 (by decide +kernel) rfl⟩, fun _ h => absurd h List.not_mem_nil⟩⟩⟩⟩
set_option maxRecDepth 100000 in
theorem az_fl_6_ok : ∀ q ∈ az_fl_6, az_flp 6 q.1 q.2.1 q.2.2 := List.forall_mem_cons.mpr ⟨Or.inl (az_int 121 (by decide +kernel) rfl), List.forall_mem_cons.mpr ⟨Or.inl (az_int 124 (by decide +kernel) rfl), List.forall_mem_cons.mpr ⟨Or.inl (az_int 127 (by decide +kernel) rfl), List.forall_mem_cons.mpr ⟨Or.inl (az_int 129 (by decide +kernel) rfl), List.forall_mem_cons.mpr ⟨Or.inl (az_int 131 (by decide +kernel) rfl), List.forall_mem_cons.mpr ⟨Or.inl (az_int 133 (by decide +kernel) rfl), List.forall_mem_cons.mpr ⟨Or.inl (az_int 135 (by decide +kernel) rfl), List.forall_mem_cons.mpr ⟨Or.inl (az_int 136 (by decide +kernel) rfl), List.forall_mem_cons.mpr ⟨Or.inl (az_int 138 (by decide +kernel) rfl), List.forall_mem_cons.mpr ⟨Or.inr ⟨"GoodHalfEmpty", az_inn 112 (by decide +kernel) rfl⟩, List.forall_mem_cons.mpr ⟨Or.inr ⟨"GoodHalfEmpty", az_inn 114 (by decide +kernel) rfl⟩, List.forall_mem_cons.mpr ⟨Or.inr ⟨"GoodHalfEmpty", az_inn 94 (by decide +kernel) rfl⟩, List.forall_mem_cons.mpr ⟨Or.inr ⟨"GoodHalfEmpty", az_inn 86 (by decide +kernel) rfl⟩, List.forall_mem_cons.mpr ⟨Or.inr ⟨"GoodHalfEmpty", az_inn 89 (by decide +kernel) rfl⟩, List.forall_mem_cons.mpr ⟨Or.inr ⟨"GoodHalfEmpty", az_inn 60 (by decide +kernel) rfl⟩, List.forall_mem_cons.mpr ⟨Or.inr ⟨"GoodHalfEmpty", az_inn 42 (by decide +kernel) rfl⟩, List.forall_mem_cons.mpr ⟨Or.inr ⟨"GoodHalfEmpty", az_inn 39 (by decide +kernel) rfl⟩, List.forall_mem_cons.mpr ⟨Or.inr ⟨"GoodHalfEmpty", az_inn 45 (by decide +kernel) rfl⟩, List.forall_mem_cons.mpr ⟨Or.inr ⟨"GoodHalfEmpty", az_inn 92 (by decide +kernel) rfl⟩, List.forall_mem_cons.mpr ⟨Or.inr ⟨"GoodHalfEmpty", az_inn 57 (by decide +kernel) rfl⟩, List.forall_mem_cons.mpr ⟨Or.inr ⟨"GoodHalfEmpty", az_inn 49 (by decide +kernel) rfl⟩, List.forall_mem_cons.mpr ⟨Or.inr ⟨"GoodHalfEmpty", az_inn 53 (by decide +kernel) rfl⟩, fun _ h => absurd h List.not_mem_nil⟩⟩⟩⟩⟩⟩⟩⟩⟩⟩⟩⟩⟩⟩⟩⟩⟩⟩⟩⟩⟩⟩
set_option maxRecDepth 100000 in
theorem az_fl_7_ok : ∀ q ∈ az_fl_7, az_flp 7 q.1 q.2.1 q.2.2 := List.forall_mem_cons.mpr ⟨Or.inl (az_int 226 (by decide +kernel) rfl), List.forall_mem_cons.mpr ⟨Or.inl (az_int 227 (by decide +kernel) rfl), List.forall_mem_cons.mpr ⟨Or.inl (az_int 228 (by decide +kernel) rfl), List.forall_mem_cons.mpr ⟨Or.inl (az_int 229 (by decide +kernel) rfl), List.forall_mem_cons.mpr ⟨Or.inl (az_int 230 (by decide +kernel) rfl), List.forall_mem_cons.mpr ⟨Or.inl (az_int 231 (by decide +kernel) rfl), List.forall_mem_cons.mpr ⟨Or.inl (az_int 232 (by decide +kernel) rfl), List.forall_mem_cons.mpr ⟨Or.inl (az_int 233 (by decide +kernel) rfl), List.forall_mem_cons.mpr ⟨Or.inl (az_int 234 (by decide +kernel) rfl), List.forall_mem_cons.mpr ⟨Or.inl (az_int 235 (by decide +kernel) rfl), List.forall_mem_cons.mpr ⟨Or.inl (az_int 236 (by decide +kernel) rfl), List.forall_mem_cons.mpr ⟨Or.inr ⟨"GoodHalfEmpty", az_inn 167 (by decide +kernel) rfl⟩, List.forall_mem_cons.mpr ⟨Or.inr ⟨"GoodHalfEmpty", az_inn 122 (by decide +kernel) rfl⟩, List.forall_mem_cons.mpr ⟨Or.inr ⟨"GoodHalfEmpty", az_inn 37 (by decide +kernel) rfl⟩, List.forall_mem_cons.mpr ⟨Or.inr ⟨"GoodHalfEmpty", az_inn 41 (by decide +kernel) rfl⟩, List.forall_mem_cons.mpr ⟨Or.inr ⟨"GoodHalfEmpty", az_inn 44 (by decide +kernel) rfl⟩, List.forall_mem_cons.mpr ⟨Or.inr ⟨"GoodHalfEmpty", az_inn 47 (by decide +kernel) rfl⟩, List.forall_mem_cons.mpr ⟨Or.inr ⟨"GoodHalfEmpty", az_inn 51 (by decide +kernel) rfl⟩, List.forall_mem_cons.mpr ⟨Or.inr ⟨"GoodHalfEmpty", az_inn 55 (by decide +kernel) rfl⟩, List.forall_mem_cons.mpr ⟨Or.inr ⟨"GoodHalfEmpty", az_inn 125 (by decide +kernel) rfl⟩, List.forall_mem_cons.mpr ⟨Or.inr ⟨"GoodHalfEmpty", az_inn 85 (by decide +kernel) rfl⟩, List.forall_mem_cons.mpr ⟨Or.inr ⟨"GoodHalfEmpty", az_inn 88 (by decide +kernel) rfl⟩, List.forall_mem_cons.mpr ⟨Or.inr ⟨"GoodHalfEmpty", az_inn 91 (by decide +kernel) rfl⟩, List.forall_mem_cons.mpr ⟨Or.inr ⟨"GoodHalfEmpty", az_inn 132 (by decide +kernel) rfl⟩, List.forall_mem_cons.mpr ⟨Or.inr ⟨"GoodHalfEmpty", az_inn 139 (by decide +kernel) rfl⟩, List.forall_mem_cons.mpr ⟨Or.inr ⟨"GoodHalfEmpty", az_inn 137 (by decide +kernel) rfl⟩, List.forall_mem_cons.mpr ⟨Or.inr ⟨"GoodHalfEmpty", az_inn 130 (by decide +kernel) rfl⟩, List.forall_mem_cons.mpr ⟨Or.inr ⟨"GoodHalfEmpty", az_inn 214 (by decide +kernel) rfl⟩, List.forall_mem_cons.mpr ⟨Or.inr ⟨"GoodHalfEmpty", az_inn 61 (by decide +kernel) rfl⟩, List.forall_mem_cons.mpr ⟨Or.inr ⟨"GoodHalfEmpty", az_inn 134 (by decide +kernel) rfl⟩, List.forall_mem_cons.mpr ⟨Or.inr ⟨"GoodHalfEmpty", az_inn 95 (by decide +kernel) rfl⟩, List.forall_mem_cons.mpr ⟨Or.inr ⟨"GoodHalfEmpty", az_inn 128 (by decide +kernel) rfl⟩, List.forall_mem_cons.mpr ⟨Or.inr ⟨"GoodHalfEmpty", az_inn 115 (by decide +kernel) rfl⟩, fun _ h => absurd h List.not_mem_nil⟩⟩⟩⟩⟩⟩⟩⟩⟩⟩⟩⟩⟩⟩⟩⟩⟩⟩⟩⟩⟩⟩⟩⟩⟩⟩⟩⟩⟩⟩⟩⟩⟩
set_option maxRecDepth 100000 in
theorem az_fl_8_ok : ∀ q ∈ az_fl_8, az_flp 8 q.1 q.2.1 q.2.2 := List.forall_mem_cons.mpr ⟨Or.inl (az_int 856 (by decide +kernel) rfl), List.forall_mem_cons.mpr ⟨Or.inl (az_int 860 (by decide +kernel) rfl), List.forall_mem_cons.mpr ⟨Or.inl (az_int 857 (by decide +kernel) rfl), List.forall_mem_cons.mpr ⟨Or.inl (az_int 858 (by decide +kernel) rfl), List.forall_mem_cons.mpr ⟨Or.inl (az_int 859 (by decide +kernel) rfl), List.forall_mem_cons.mpr ⟨Or.inl (az_int 861 (by decide +kernel) rfl), List.forall_mem_cons.mpr ⟨Or.inl (az_int 865 (by decide +kernel) rfl), List.forall_mem_cons.mpr ⟨Or.inl (az_int 866 (by decide +kernel) rfl), List.forall_mem_cons.mpr ⟨Or.inl (az_int 867 (by decide +kernel) rfl), List.forall_mem_cons.mpr ⟨Or.inl (az_int 869 (by decide +kernel) rfl), List.forall_mem_cons.mpr ⟨Or.inl (az_int 870 (by decide +kernel) rfl), List.forall_mem_cons.mpr ⟨Or.inl (az_int 871 (by decide +kernel) rfl), List.forall_mem_cons.mpr ⟨Or.inl (az_int 872 (by decide +kernel) rfl), List.forall_mem_cons.mpr ⟨Or.inl (az_int 873 (by decide +kernel) rfl), List.forall_mem_cons.mpr ⟨Or.inl (az_int 880 (by decide +kernel) rfl), List.forall_mem_cons.mpr ⟨Or.inl (az_int 881 (by decide +kernel) rfl), List.forall_mem_cons.mpr ⟨Or.inl (az_int 862 (by decide +kernel) rfl), List.forall_mem_cons.mpr ⟨Or.inl (az_int 864 (by decide +kernel) rfl), List.forall_mem_cons.mpr ⟨Or.inl (az_int 863 (by decide +kernel) rfl), List.forall_mem_cons.mpr ⟨Or.inl (az_int 868 (by decide +kernel) rfl), List.forall_mem_cons.mpr ⟨Or.inl (az_int 874 (by decide +kernel) rfl), List.forall_mem_cons.mpr ⟨Or.inl (az_int 879 (by decide +kernel) rfl), List.forall_mem_cons.mpr ⟨Or.inl (az_int 877 (by decide +kernel) rfl), List.forall_mem_cons.mpr ⟨Or.inl (az_int 878 (by decide +kernel) rfl), List.forall_mem_cons.mpr ⟨Or.inl (az_int 876 (by decide +kernel) rfl), List.forall_mem_cons.mpr ⟨Or.inl (az_int 875 (by decide +kernel) rfl), List.forall_mem_cons.mpr ⟨Or.inl (az_int 882 (by decide +kernel) rfl), fun _ h => absurd h List.not_mem_nil⟩⟩⟩⟩⟩⟩⟩⟩⟩⟩⟩⟩⟩⟩⟩⟩⟩⟩⟩⟩⟩⟩⟩⟩⟩⟩⟩
set_option maxRecDepth 100000 in
theorem az_fl_9_ok : ∀ q ∈ az_fl_9, az_flp 9 q.1 q.2.1 q.2.2 := List.forall_mem_cons.mpr ⟨Or.inl (az_int 1166 (by decide +kernel) rfl), List.forall_mem_cons.mpr ⟨Or.inl (az_int 1167 (by decide +kernel) rfl), fun _ h => absurd h List.not_mem_nil⟩⟩
theorem az_fl_ok {c k ci j : Nat} (h : az_fl c k = some (ci, j)) : az_flp c k ci j := by
  unfold az_fl at h
  split at h
  · exact az_fl_0_ok _ (az_pool_in h)
  · exact az_fl_1_ok _ (az_pool_in h)
  · exact az_fl_2_ok _ (az_pool_in h)
  · exact az_fl_3_ok _ (az_pool_in h)
  · exact az_fl_4_ok _ (az_pool_in h)
  · exact az_fl_5_ok _ (az_pool_in h)
  · exact az_fl_6_ok _ (az_pool_in h)
  · exact az_fl_7_ok _ (az_pool_in h)
  · exact az_fl_8_ok _ (az_pool_in h)
  · exact az_fl_9_ok _ (az_pool_in h)
  · cases h
set_option maxRecDepth 100000 in
theorem az_mp_X0_begin : az_mp az_m_X0_begin 2 false := ⟨az_int 691 (by decide +kernel) rfl, az_int 8 (by decide +kernel) rfl, by decide +kernel, rfl, by decide +kernel, by decide +kernel, by decide +kernel, fun _ => ⟨az_int 690 (by decide +kernel) rfl, az_ins 50 (by decide +kernel) rfl⟩, fun h => absurd h (by decide), az_co_X0_begin⟩
set_option maxRecDepth 100000 in
theorem az_mp_X0_add : az_mp az_m_X0_add 5 false := ⟨az_int 696 (by decide +kernel) rfl, az_int 8 (by decide +kernel) rfl, by decide +kernel, rfl, by decide +kernel, by decide +kernel, by decide +kernel, fun _ => ⟨az_int 695 (by decide +kernel) rfl, az_ins 51 (by decide +kernel) rfl⟩, fun h => absurd h (by decide), az_co_X0_add⟩
set_option maxRecDepth 100000 in
theorem az_mp_X0_hasPlan : az_mp az_m_X0_hasPlan 0 false := ⟨az_int 706 (by decide +kernel) rfl, az_int 8 (by decide +kernel) rfl, by decide +kernel, rfl, by decide +kernel, by decide +kernel, by decide +kernel, fun _ => ⟨az_int 705 (by decide +kernel) rfl, az_ins 53 (by decide +kernel) rfl⟩, fun h => absurd h (by decide), az_co_X0_hasPlan⟩
set_option maxRecDepth 100000 in
theorem az_mp_X0_plans : az_mp az_m_X0_plans 0 false := ⟨az_int 702 (by decide +kernel) rfl, az_int 8 (by decide +kernel) rfl, by decide +kernel, rfl, by decide +kernel, by decide +kernel, by decide +kernel, fun _ => ⟨az_int 701 (by decide +kernel) rfl, az_ins 52 (by decide +kernel) rfl⟩, fun h => absurd h (by decide), az_co_X0_plans⟩
set_option maxRecDepth 100000 in
theorem az_mp_X0_countWays : az_mp az_m_X0_countWays 0 false := ⟨az_int 711 (by decide +kernel) rfl, az_int 8 (by decide +kernel) rfl, by decide +kernel, rfl, by decide +kernel, by decide +kernel, by decide +kernel, fun _ => ⟨az_int 710 (by decide +kernel) rfl, az_ins 54 (by decide +kernel) rfl⟩, fun h => absurd h (by decide), az_co_X0_countWays⟩
set_option maxRecDepth 100000 in
theorem az_mp_X0_greatestWorth : az_mp az_m_X0_greatestWorth 0 false := ⟨az_int 735 (by decide +kernel) rfl, az_int 8 (by decide +kernel) rfl, by decide +kernel, rfl, by decide +kernel, by decide +kernel, by decide +kernel, fun _ => ⟨az_int 734 (by decide +kernel) rfl, az_ins 58 (by decide +kernel) rfl⟩, fun h => absurd h (by decide), az_co_X0_greatestWorth⟩
set_option maxRecDepth 100000 in
theorem az_mp_X0_greatestGain : az_mp az_m_X0_greatestGain 1 false := ⟨az_int 739 (by decide +kernel) rfl, az_int 8 (by decide +kernel) rfl, by decide +kernel, rfl, by decide +kernel, by decide +kernel, by decide +kernel, fun _ => ⟨az_int 738 (by decide +kernel) rfl, az_ins 59 (by decide +kernel) rfl⟩, fun h => absurd h (by decide), az_co_X0_greatestGain⟩
set_option maxRecDepth 100000 in
theorem az_mp_X0_keepFirst : az_mp az_m_X0_keepFirst 1 false := ⟨az_int 730 (by decide +kernel) rfl, az_int 8 (by decide +kernel) rfl, by decide +kernel, rfl, by decide +kernel, by decide +kernel, by decide +kernel, fun _ => ⟨az_int 729 (by decide +kernel) rfl, az_ins 57 (by decide +kernel) rfl⟩, fun h => absurd h (by decide), az_co_X0_keepFirst⟩
set_option maxRecDepth 100000 in
theorem az_mp_X1_copyFrom : az_mp az_m_X1_copyFrom 1 false := ⟨az_int 308 (by decide +kernel) rfl, az_int 5 (by decide +kernel) rfl, by decide +kernel, rfl, by decide +kernel, by decide +kernel, by decide +kernel, fun _ => ⟨az_int 307 (by decide +kernel) rfl, az_ins 5 (by decide +kernel) rfl⟩, fun h => absurd h (by decide), az_co_X1_copyFrom⟩
set_option maxRecDepth 100000 in
theorem az_mp_X1_add : az_mp az_m_X1_add 1 false := ⟨az_int 481 (by decide +kernel) rfl, az_int 5 (by decide +kernel) rfl, by decide +kernel, rfl, by decide +kernel, by decide +kernel, by decide +kernel, fun _ => ⟨az_int 480 (by decide +kernel) rfl, az_ins 19 (by decide +kernel) rfl⟩, fun h => absurd h (by decide), az_co_X1_add⟩
set_option maxRecDepth 100000 in
theorem az_mp_X2_restingPlans : az_mp az_m_X2_restingPlans 3 false := ⟨az_int 679 (by decide +kernel) rfl, az_int 7 (by decide +kernel) rfl, by decide +kernel, rfl, by decide +kernel, by decide +kernel, by decide +kernel, fun _ => ⟨az_int 678 (by decide +kernel) rfl, az_ins 47 (by decide +kernel) rfl⟩, fun h => absurd h (by decide), az_co_X2_restingPlans⟩
set_option maxRecDepth 100000 in
theorem az_mp_X2_findFirstResting : az_mp az_m_X2_findFirstResting 3 false := ⟨az_int 720 (by decide +kernel) rfl, az_int 7 (by decide +kernel) rfl, by decide +kernel, rfl, by decide +kernel, by decide +kernel, by decide +kernel, fun _ => ⟨az_int 719 (by decide +kernel) rfl, az_ins 55 (by decide +kernel) rfl⟩, fun h => absurd h (by decide), az_co_X2_findFirstResting⟩
set_option maxRecDepth 100000 in
theorem az_mp_X2_bestRestingWorth : az_mp az_m_X2_bestRestingWorth 3 false := ⟨az_int 775 (by decide +kernel) rfl, az_int 7 (by decide +kernel) rfl, by decide +kernel, rfl, by decide +kernel, by decide +kernel, by decide +kernel, fun _ => ⟨az_int 774 (by decide +kernel) rfl, az_ins 65 (by decide +kernel) rfl⟩, fun h => absurd h (by decide), az_co_X2_bestRestingWorth⟩
set_option maxRecDepth 100000 in
theorem az_mp_X2_bestWorth : az_mp az_m_X2_bestWorth 3 false := ⟨az_int 756 (by decide +kernel) rfl, az_int 7 (by decide +kernel) rfl, by decide +kernel, rfl, by decide +kernel, by decide +kernel, by decide +kernel, fun _ => ⟨az_int 755 (by decide +kernel) rfl, az_ins 62 (by decide +kernel) rfl⟩, fun h => absurd h (by decide), az_co_X2_bestWorth⟩
set_option maxRecDepth 100000 in
theorem az_mp_X2_findFirstBest : az_mp az_m_X2_findFirstBest 3 false := ⟨az_int 766 (by decide +kernel) rfl, az_int 7 (by decide +kernel) rfl, by decide +kernel, rfl, by decide +kernel, by decide +kernel, by decide +kernel, fun _ => ⟨az_int 765 (by decide +kernel) rfl, az_ins 64 (by decide +kernel) rfl⟩, fun h => absurd h (by decide), az_co_X2_findFirstBest⟩
set_option maxRecDepth 100000 in
theorem az_mp_X2_presentOfFirst : az_mp az_m_X2_presentOfFirst 0 false := ⟨az_int 748 (by decide +kernel) rfl, az_int 7 (by decide +kernel) rfl, by decide +kernel, rfl, by decide +kernel, by decide +kernel, by decide +kernel, fun _ => ⟨az_int 747 (by decide +kernel) rfl, az_ins 61 (by decide +kernel) rfl⟩, fun h => absurd h (by decide), az_co_X2_presentOfFirst⟩
set_option maxRecDepth 100000 in
theorem az_mp_X2_offerFirst : az_mp az_m_X2_offerFirst 1 false := ⟨az_int 726 (by decide +kernel) rfl, az_int 7 (by decide +kernel) rfl, by decide +kernel, rfl, by decide +kernel, by decide +kernel, by decide +kernel, fun _ => ⟨az_int 725 (by decide +kernel) rfl, az_ins 56 (by decide +kernel) rfl⟩, fun h => absurd h (by decide), az_co_X2_offerFirst⟩
set_option maxRecDepth 100000 in
theorem az_mp_X2_isBoxBeforeFirst : az_mp az_m_X2_isBoxBeforeFirst 0 false := ⟨az_int 743 (by decide +kernel) rfl, az_int 7 (by decide +kernel) rfl, by decide +kernel, rfl, by decide +kernel, by decide +kernel, by decide +kernel, fun _ => ⟨az_int 742 (by decide +kernel) rfl, az_ins 60 (by decide +kernel) rfl⟩, fun h => absurd h (by decide), az_co_X2_isBoxBeforeFirst⟩
set_option maxRecDepth 100000 in
theorem az_mp_X2_beginBand : az_mp az_m_X2_beginBand 2 false := ⟨az_int 687 (by decide +kernel) rfl, az_int 7 (by decide +kernel) rfl, by decide +kernel, rfl, by decide +kernel, by decide +kernel, by decide +kernel, fun _ => ⟨az_int 686 (by decide +kernel) rfl, az_ins 49 (by decide +kernel) rfl⟩, fun h => absurd h (by decide), az_co_X2_beginBand⟩
set_option maxRecDepth 100000 in
theorem az_mp_X2_boxAll : az_mp az_m_X2_boxAll 4 false := ⟨az_int 760 (by decide +kernel) rfl, az_int 7 (by decide +kernel) rfl, by decide +kernel, rfl, by decide +kernel, by decide +kernel, by decide +kernel, fun _ => ⟨az_int 759 (by decide +kernel) rfl, az_ins 63 (by decide +kernel) rfl⟩, fun h => absurd h (by decide), az_co_X2_boxAll⟩
set_option maxRecDepth 100000 in
theorem az_mp_X2_boxResting : az_mp az_m_X2_boxResting 4 false := ⟨az_int 683 (by decide +kernel) rfl, az_int 7 (by decide +kernel) rfl, by decide +kernel, rfl, by decide +kernel, by decide +kernel, by decide +kernel, fun _ => ⟨az_int 682 (by decide +kernel) rfl, az_ins 48 (by decide +kernel) rfl⟩, fun h => absurd h (by decide), az_co_X2_boxResting⟩
set_option maxRecDepth 100000 in
theorem az_mp_X3_copyFrom : az_mp az_m_X3_copyFrom 1 false := ⟨az_int 303 (by decide +kernel) rfl, az_int 4 (by decide +kernel) rfl, by decide +kernel, rfl, by decide +kernel, by decide +kernel, by decide +kernel, fun _ => ⟨az_int 302 (by decide +kernel) rfl, az_ins 4 (by decide +kernel) rfl⟩, fun h => absurd h (by decide), az_co_X3_copyFrom⟩
set_option maxRecDepth 100000 in
theorem az_mp_X3_has : az_mp az_m_X3_has 1 false := ⟨az_int 501 (by decide +kernel) rfl, az_int 4 (by decide +kernel) rfl, by decide +kernel, rfl, by decide +kernel, by decide +kernel, by decide +kernel, fun _ => ⟨az_int 500 (by decide +kernel) rfl, az_ins 23 (by decide +kernel) rfl⟩, fun h => absurd h (by decide), az_co_X3_has⟩
set_option maxRecDepth 100000 in
theorem az_mp_X3_add : az_mp az_m_X3_add 2 false := ⟨az_int 488 (by decide +kernel) rfl, az_int 4 (by decide +kernel) rfl, by decide +kernel, rfl, by decide +kernel, by decide +kernel, by decide +kernel, fun _ => ⟨az_int 487 (by decide +kernel) rfl, az_ins 20 (by decide +kernel) rfl⟩, fun h => absurd h (by decide), az_co_X3_add⟩
set_option maxRecDepth 100000 in
theorem az_mp_X3_mostRight : az_mp az_m_X3_mostRight 1 false := ⟨az_int 581 (by decide +kernel) rfl, az_int 4 (by decide +kernel) rfl, by decide +kernel, rfl, by decide +kernel, by decide +kernel, by decide +kernel, fun _ => ⟨az_int 580 (by decide +kernel) rfl, az_ins 35 (by decide +kernel) rfl⟩, fun h => absurd h (by decide), az_co_X3_mostRight⟩
set_option maxRecDepth 100000 in
theorem az_mp_X3_lengthen : az_mp az_m_X3_lengthen 1 false := ⟨az_int 635 (by decide +kernel) rfl, az_int 4 (by decide +kernel) rfl, by decide +kernel, rfl, by decide +kernel, by decide +kernel, by decide +kernel, fun _ => ⟨az_int 634 (by decide +kernel) rfl, az_ins 43 (by decide +kernel) rfl⟩, fun h => absurd h (by decide), az_co_X3_lengthen⟩
set_option maxRecDepth 100000 in
theorem az_mp_X4_copyFrom : az_mp az_m_X4_copyFrom 1 false := ⟨az_int 296 (by decide +kernel) rfl, az_int 3 (by decide +kernel) rfl, by decide +kernel, rfl, by decide +kernel, by decide +kernel, by decide +kernel, fun _ => ⟨az_int 295 (by decide +kernel) rfl, az_ins 3 (by decide +kernel) rfl⟩, fun h => absurd h (by decide), az_co_X4_copyFrom⟩
set_option maxRecDepth 100000 in
theorem az_mp_X4_has : az_mp az_m_X4_has 1 false := ⟨az_int 519 (by decide +kernel) rfl, az_int 3 (by decide +kernel) rfl, by decide +kernel, rfl, by decide +kernel, by decide +kernel, by decide +kernel, fun _ => ⟨az_int 518 (by decide +kernel) rfl, az_ins 26 (by decide +kernel) rfl⟩, fun h => absurd h (by decide), az_co_X4_has⟩
set_option maxRecDepth 100000 in
theorem az_mp_X4_add : az_mp az_m_X4_add 6 false := ⟨az_int 505 (by decide +kernel) rfl, az_int 3 (by decide +kernel) rfl, by decide +kernel, rfl, by decide +kernel, by decide +kernel, by decide +kernel, fun _ => ⟨az_int 504 (by decide +kernel) rfl, az_ins 24 (by decide +kernel) rfl⟩, fun h => absurd h (by decide), az_co_X4_add⟩
set_option maxRecDepth 100000 in
theorem az_mp_X4_people : az_mp az_m_X4_people 0 false := ⟨az_int 536 (by decide +kernel) rfl, az_int 3 (by decide +kernel) rfl, by decide +kernel, rfl, by decide +kernel, by decide +kernel, by decide +kernel, fun _ => ⟨az_int 535 (by decide +kernel) rfl, az_ins 29 (by decide +kernel) rfl⟩, fun h => absurd h (by decide), az_co_X4_people⟩
set_option maxRecDepth 100000 in
theorem az_mp_X5_add : az_mp az_m_X5_add 1 false := ⟨az_int 280 (by decide +kernel) rfl, az_int 6 (by decide +kernel) rfl, by decide +kernel, rfl, by decide +kernel, by decide +kernel, by decide +kernel, fun _ => ⟨az_int 279 (by decide +kernel) rfl, az_ins 1 (by decide +kernel) rfl⟩, fun h => absurd h (by decide), az_co_X5_add⟩
set_option maxRecDepth 100000 in
theorem az_mp_X5_clear : az_mp az_m_X5_clear 0 false := ⟨az_int 510 (by decide +kernel) rfl, az_int 6 (by decide +kernel) rfl, by decide +kernel, rfl, by decide +kernel, by decide +kernel, by decide +kernel, fun _ => ⟨az_int 509 (by decide +kernel) rfl, az_ins 25 (by decide +kernel) rfl⟩, fun h => absurd h (by decide), az_co_X5_clear⟩
set_option maxRecDepth 100000 in
theorem az_mp_X5_tellTo : az_mp az_m_X5_tellTo 1 false := ⟨az_int 313 (by decide +kernel) rfl, az_int 6 (by decide +kernel) rfl, by decide +kernel, rfl, by decide +kernel, by decide +kernel, by decide +kernel, fun _ => ⟨az_int 312 (by decide +kernel) rfl, az_ins 6 (by decide +kernel) rfl⟩, fun h => absurd h (by decide), az_co_X5_tellTo⟩
set_option maxRecDepth 100000 in
theorem az_mp_X5_badPlace : az_mp az_m_X5_badPlace 0 false := ⟨az_int 317 (by decide +kernel) rfl, az_int 6 (by decide +kernel) rfl, by decide +kernel, rfl, by decide +kernel, by decide +kernel, by decide +kernel, fun _ => ⟨az_int 316 (by decide +kernel) rfl, az_ins 7 (by decide +kernel) rfl⟩, fun h => absurd h (by decide), az_co_X5_badPlace⟩
set_option maxRecDepth 100000 in
theorem az_mp_X5_formAt : az_mp az_m_X5_formAt 1 false := ⟨az_int 321 (by decide +kernel) rfl, az_int 6 (by decide +kernel) rfl, by decide +kernel, rfl, by decide +kernel, by decide +kernel, by decide +kernel, fun _ => ⟨az_int 320 (by decide +kernel) rfl, az_ins 8 (by decide +kernel) rfl⟩, fun h => absurd h (by decide), az_co_X5_formAt⟩
set_option maxRecDepth 100000 in
theorem az_mp_X5_numberForm : az_mp az_m_X5_numberForm 1 false := ⟨az_int 329 (by decide +kernel) rfl, az_int 6 (by decide +kernel) rfl, by decide +kernel, rfl, by decide +kernel, by decide +kernel, by decide +kernel, fun _ => ⟨az_int 328 (by decide +kernel) rfl, az_ins 10 (by decide +kernel) rfl⟩, fun h => absurd h (by decide), az_co_X5_numberForm⟩
set_option maxRecDepth 100000 in
theorem az_mp_X5_fits : az_mp az_m_X5_fits 2 false := ⟨az_int 394 (by decide +kernel) rfl, az_int 6 (by decide +kernel) rfl, by decide +kernel, rfl, by decide +kernel, by decide +kernel, by decide +kernel, fun _ => ⟨az_int 393 (by decide +kernel) rfl, az_ins 12 (by decide +kernel) rfl⟩, fun h => absurd h (by decide), az_co_X5_fits⟩
set_option maxRecDepth 100000 in
theorem az_mp_X5_tellStatement : az_mp az_m_X5_tellStatement 2 false := ⟨az_int 461 (by decide +kernel) rfl, az_int 6 (by decide +kernel) rfl, by decide +kernel, rfl, by decide +kernel, by decide +kernel, by decide +kernel, fun _ => ⟨az_int 460 (by decide +kernel) rfl, az_ins 14 (by decide +kernel) rfl⟩, fun h => absurd h (by decide), az_co_X5_tellStatement⟩
set_option maxRecDepth 100000 in
theorem az_mp_X5_tellSort : az_mp az_m_X5_tellSort 2 false := ⟨az_int 493 (by decide +kernel) rfl, az_int 6 (by decide +kernel) rfl, by decide +kernel, rfl, by decide +kernel, by decide +kernel, by decide +kernel, fun _ => ⟨az_int 492 (by decide +kernel) rfl, az_ins 21 (by decide +kernel) rfl⟩, fun h => absurd h (by decide), az_co_X5_tellSort⟩
set_option maxRecDepth 100000 in
theorem az_mp_X5_letterAt : az_mp az_m_X5_letterAt 1 false := ⟨az_int 325 (by decide +kernel) rfl, az_int 6 (by decide +kernel) rfl, by decide +kernel, rfl, by decide +kernel, by decide +kernel, by decide +kernel, fun _ => ⟨az_int 324 (by decide +kernel) rfl, az_ins 9 (by decide +kernel) rfl⟩, fun h => absurd h (by decide), az_co_X5_letterAt⟩
set_option maxRecDepth 100000 in
theorem az_mp_X5_isDigit : az_mp az_m_X5_isDigit 1 false := ⟨az_int 333 (by decide +kernel) rfl, az_int 6 (by decide +kernel) rfl, by decide +kernel, rfl, by decide +kernel, by decide +kernel, by decide +kernel, fun _ => ⟨az_int 332 (by decide +kernel) rfl, az_ins 11 (by decide +kernel) rfl⟩, fun h => absurd h (by decide), az_co_X5_isDigit⟩
set_option maxRecDepth 100000 in
theorem az_mp_X5_digitAt : az_mp az_m_X5_digitAt 1 false := ⟨az_int 469 (by decide +kernel) rfl, az_int 6 (by decide +kernel) rfl, by decide +kernel, rfl, by decide +kernel, by decide +kernel, by decide +kernel, fun _ => ⟨az_int 468 (by decide +kernel) rfl, az_ins 16 (by decide +kernel) rfl⟩, fun h => absurd h (by decide), az_co_X5_digitAt⟩
set_option maxRecDepth 100000 in
theorem az_mp_X5_numberAt : az_mp az_m_X5_numberAt 1 false := ⟨az_int 465 (by decide +kernel) rfl, az_int 6 (by decide +kernel) rfl, by decide +kernel, rfl, by decide +kernel, by decide +kernel, by decide +kernel, fun _ => ⟨az_int 464 (by decide +kernel) rfl, az_ins 15 (by decide +kernel) rfl⟩, fun h => absurd h (by decide), az_co_X5_numberAt⟩
set_option maxRecDepth 100000 in
theorem az_mp_X5_kindAt : az_mp az_m_X5_kindAt 2 false := ⟨az_int 399 (by decide +kernel) rfl, az_int 6 (by decide +kernel) rfl, by decide +kernel, rfl, by decide +kernel, by decide +kernel, by decide +kernel, fun _ => ⟨az_int 398 (by decide +kernel) rfl, az_ins 13 (by decide +kernel) rfl⟩, fun h => absurd h (by decide), az_co_X5_kindAt⟩
set_option maxRecDepth 100000 in
theorem az_mp_X6_copyFrom : az_mp az_m_X6_copyFrom 1 false := ⟨az_int 292 (by decide +kernel) rfl, az_int 2 (by decide +kernel) rfl, by decide +kernel, rfl, by decide +kernel, by decide +kernel, by decide +kernel, fun _ => ⟨az_int 291 (by decide +kernel) rfl, az_ins 2 (by decide +kernel) rfl⟩, fun h => absurd h (by decide), az_co_X6_copyFrom⟩
set_option maxRecDepth 100000 in
theorem az_mp_X6_setChairs : az_mp az_m_X6_setChairs 1 false := ⟨az_int 473 (by decide +kernel) rfl, az_int 2 (by decide +kernel) rfl, by decide +kernel, rfl, by decide +kernel, by decide +kernel, by decide +kernel, fun _ => ⟨az_int 472 (by decide +kernel) rfl, az_ins 17 (by decide +kernel) rfl⟩, fun h => absurd h (by decide), az_co_X6_setChairs⟩
set_option maxRecDepth 100000 in
theorem az_mp_X6_addWeek : az_mp az_m_X6_addWeek 1 false := ⟨az_int 477 (by decide +kernel) rfl, az_int 2 (by decide +kernel) rfl, by decide +kernel, rfl, by decide +kernel, by decide +kernel, by decide +kernel, fun _ => ⟨az_int 476 (by decide +kernel) rfl, az_ins 18 (by decide +kernel) rfl⟩, fun h => absurd h (by decide), az_co_X6_addWeek⟩
set_option maxRecDepth 100000 in
theorem az_mp_X6_mayFollow : az_mp az_m_X6_mayFollow 2 false := ⟨az_int 497 (by decide +kernel) rfl, az_int 2 (by decide +kernel) rfl, by decide +kernel, rfl, by decide +kernel, by decide +kernel, by decide +kernel, fun _ => ⟨az_int 496 (by decide +kernel) rfl, az_ins 22 (by decide +kernel) rfl⟩, fun h => absurd h (by decide), az_co_X6_mayFollow⟩
set_option maxRecDepth 100000 in
theorem az_mp_X6_presentAgo : az_mp az_m_X6_presentAgo 1 false := ⟨az_int 532 (by decide +kernel) rfl, az_int 2 (by decide +kernel) rfl, by decide +kernel, rfl, by decide +kernel, by decide +kernel, by decide +kernel, fun _ => ⟨az_int 531 (by decide +kernel) rfl, az_ins 28 (by decide +kernel) rfl⟩, fun h => absurd h (by decide), az_co_X6_presentAgo⟩
set_option maxRecDepth 100000 in
theorem az_mp_X6_meanPresent : az_mp az_m_X6_meanPresent 1 false := ⟨az_int 542 (by decide +kernel) rfl, az_int 2 (by decide +kernel) rfl, by decide +kernel, rfl, by decide +kernel, by decide +kernel, by decide +kernel, fun _ => ⟨az_int 541 (by decide +kernel) rfl, az_ins 30 (by decide +kernel) rfl⟩, fun h => absurd h (by decide), az_co_X6_meanPresent⟩
set_option maxRecDepth 100000 in
theorem az_mp_X6_foretells : az_mp az_m_X6_foretells 2 false := ⟨az_int 528 (by decide +kernel) rfl, az_int 2 (by decide +kernel) rfl, by decide +kernel, rfl, by decide +kernel, by decide +kernel, by decide +kernel, fun _ => ⟨az_int 527 (by decide +kernel) rfl, az_ins 27 (by decide +kernel) rfl⟩, fun h => absurd h (by decide), az_co_X6_foretells⟩
set_option maxRecDepth 100000 in
theorem az_mp_X6_isRight : az_mp az_m_X6_isRight 1 false := ⟨az_int 593 (by decide +kernel) rfl, az_int 2 (by decide +kernel) rfl, by decide +kernel, rfl, by decide +kernel, by decide +kernel, by decide +kernel, fun _ => ⟨az_int 592 (by decide +kernel) rfl, az_ins 37 (by decide +kernel) rfl⟩, fun h => absurd h (by decide), az_co_X6_isRight⟩
set_option maxRecDepth 100000 in
theorem az_mp_X6_decide : az_mp az_m_X6_decide 0 false := ⟨az_int 601 (by decide +kernel) rfl, az_int 2 (by decide +kernel) rfl, by decide +kernel, rfl, by decide +kernel, by decide +kernel, by decide +kernel, fun _ => ⟨az_int 600 (by decide +kernel) rfl, az_ins 38 (by decide +kernel) rfl⟩, fun h => absurd h (by decide), az_co_X6_decide⟩
set_option maxRecDepth 100000 in
theorem az_mp_X6_askRules : az_mp az_m_X6_askRules 0 false := ⟨az_int 566 (by decide +kernel) rfl, az_int 2 (by decide +kernel) rfl, by decide +kernel, rfl, by decide +kernel, by decide +kernel, by decide +kernel, fun _ => ⟨az_int 565 (by decide +kernel) rfl, az_ins 32 (by decide +kernel) rfl⟩, fun h => absurd h (by decide), az_co_X6_askRules⟩
set_option maxRecDepth 100000 in
theorem az_mp_X6_askSorts : az_mp az_m_X6_askSorts 0 false := ⟨az_int 573 (by decide +kernel) rfl, az_int 2 (by decide +kernel) rfl, by decide +kernel, rfl, by decide +kernel, by decide +kernel, by decide +kernel, fun _ => ⟨az_int 572 (by decide +kernel) rfl, az_ins 33 (by decide +kernel) rfl⟩, fun h => absurd h (by decide), az_co_X6_askSorts⟩
set_option maxRecDepth 100000 in
theorem az_mp_X6_settle : az_mp az_m_X6_settle 2 false := ⟨az_int 589 (by decide +kernel) rfl, az_int 2 (by decide +kernel) rfl, by decide +kernel, rfl, by decide +kernel, by decide +kernel, by decide +kernel, fun _ => ⟨az_int 588 (by decide +kernel) rfl, az_ins 36 (by decide +kernel) rfl⟩, fun h => absurd h (by decide), az_co_X6_settle⟩
set_option maxRecDepth 100000 in
theorem az_mp_X6_wantsToGo : az_mp az_m_X6_wantsToGo 1 false := ⟨az_int 577 (by decide +kernel) rfl, az_int 2 (by decide +kernel) rfl, by decide +kernel, rfl, by decide +kernel, by decide +kernel, by decide +kernel, fun _ => ⟨az_int 576 (by decide +kernel) rfl, az_ins 34 (by decide +kernel) rfl⟩, fun h => absurd h (by decide), az_co_X6_wantsToGo⟩
set_option maxRecDepth 100000 in
theorem az_mp_X6_goBy : az_mp az_m_X6_goBy 0 false := ⟨az_int 562 (by decide +kernel) rfl, az_int 2 (by decide +kernel) rfl, by decide +kernel, rfl, by decide +kernel, by decide +kernel, by decide +kernel, fun _ => ⟨az_int 561 (by decide +kernel) rfl, az_ins 31 (by decide +kernel) rfl⟩, fun h => absurd h (by decide), az_co_X6_goBy⟩
set_option maxRecDepth 100000 in
theorem az_mp_X6_worthToOne : az_mp az_m_X6_worthToOne 1 false := ⟨az_int 622 (by decide +kernel) rfl, az_int 2 (by decide +kernel) rfl, by decide +kernel, rfl, by decide +kernel, by decide +kernel, by decide +kernel, fun _ => ⟨az_int 621 (by decide +kernel) rfl, az_ins 41 (by decide +kernel) rfl⟩, fun h => absurd h (by decide), az_co_X6_worthToOne⟩
set_option maxRecDepth 100000 in
theorem az_mp_X6_worthToAll : az_mp az_m_X6_worthToAll 0 false := ⟨az_int 618 (by decide +kernel) rfl, az_int 2 (by decide +kernel) rfl, by decide +kernel, rfl, by decide +kernel, by decide +kernel, by decide +kernel, fun _ => ⟨az_int 617 (by decide +kernel) rfl, az_ins 40 (by decide +kernel) rfl⟩, fun h => absurd h (by decide), az_co_X6_worthToAll⟩
set_option maxRecDepth 100000 in
theorem az_mp_X6_drawMemory : az_mp az_m_X6_drawMemory 1 false := ⟨az_int 810 (by decide +kernel) rfl, az_int 2 (by decide +kernel) rfl, by decide +kernel, rfl, by decide +kernel, by decide +kernel, by decide +kernel, fun _ => ⟨az_int 809 (by decide +kernel) rfl, az_ins 67 (by decide +kernel) rfl⟩, fun h => absurd h (by decide), az_co_X6_drawMemory⟩
set_option maxRecDepth 100000 in
theorem az_mp_X7_letter : az_mp az_m_X7_letter 1 false := ⟨az_int 263 (by decide +kernel) rfl, az_int 1 (by decide +kernel) rfl, by decide +kernel, rfl, by decide +kernel, by decide +kernel, by decide +kernel, fun _ => ⟨az_int 261 (by decide +kernel) rfl, az_int 262 (by decide +kernel) rfl⟩, fun h => absurd h (by decide), az_co_X7_letter⟩
set_option maxRecDepth 100000 in
theorem az_mp_X7_town : az_mp az_m_X7_town 0 false := ⟨az_int 288 (by decide +kernel) rfl, az_int 1 (by decide +kernel) rfl, by decide +kernel, rfl, by decide +kernel, by decide +kernel, by decide +kernel, fun _ => ⟨az_int 286 (by decide +kernel) rfl, az_int 287 (by decide +kernel) rfl⟩, fun h => absurd h (by decide), az_co_X7_town⟩
set_option maxRecDepth 100000 in
theorem az_mp_X7_sort : az_mp az_m_X7_sort 2 false := ⟨az_int 515 (by decide +kernel) rfl, az_int 1 (by decide +kernel) rfl, by decide +kernel, rfl, by decide +kernel, by decide +kernel, by decide +kernel, fun _ => ⟨az_int 513 (by decide +kernel) rfl, az_int 514 (by decide +kernel) rfl⟩, fun h => absurd h (by decide), az_co_X7_sort⟩
set_option maxRecDepth 100000 in
theorem az_mp_X7_rule : az_mp az_m_X7_rule 2 false := ⟨az_int 523 (by decide +kernel) rfl, az_int 1 (by decide +kernel) rfl, by decide +kernel, rfl, by decide +kernel, by decide +kernel, by decide +kernel, fun _ => ⟨az_int 521 (by decide +kernel) rfl, az_int 522 (by decide +kernel) rfl⟩, fun h => absurd h (by decide), az_co_X7_rule⟩
set_option maxRecDepth 100000 in
theorem az_mp_X7_remembered : az_mp az_m_X7_remembered 1 false := ⟨az_int 549 (by decide +kernel) rfl, az_int 1 (by decide +kernel) rfl, by decide +kernel, rfl, by decide +kernel, by decide +kernel, by decide +kernel, fun _ => ⟨az_int 547 (by decide +kernel) rfl, az_int 548 (by decide +kernel) rfl⟩, fun h => absurd h (by decide), az_co_X7_remembered⟩
set_option maxRecDepth 100000 in
theorem az_mp_X7_penny : az_mp az_m_X7_penny 1 false := ⟨az_int 554 (by decide +kernel) rfl, az_int 1 (by decide +kernel) rfl, by decide +kernel, rfl, by decide +kernel, by decide +kernel, by decide +kernel, fun _ => ⟨az_int 552 (by decide +kernel) rfl, az_int 553 (by decide +kernel) rfl⟩, fun h => absurd h (by decide), az_co_X7_penny⟩
set_option maxRecDepth 100000 in
theorem az_mp_X7_week : az_mp az_m_X7_week 0 false := ⟨az_int 558 (by decide +kernel) rfl, az_int 1 (by decide +kernel) rfl, by decide +kernel, rfl, by decide +kernel, by decide +kernel, by decide +kernel, fun _ => ⟨az_int 556 (by decide +kernel) rfl, az_int 557 (by decide +kernel) rfl⟩, fun h => absurd h (by decide), az_co_X7_week⟩
set_option maxRecDepth 100000 in
theorem az_mp_X7_next : az_mp az_m_X7_next 0 false := ⟨az_int 597 (by decide +kernel) rfl, az_int 1 (by decide +kernel) rfl, by decide +kernel, rfl, by decide +kernel, by decide +kernel, by decide +kernel, fun _ => ⟨az_int 595 (by decide +kernel) rfl, az_int 596 (by decide +kernel) rfl⟩, fun h => absurd h (by decide), az_co_X7_next⟩
set_option maxRecDepth 100000 in
theorem az_mp_X7_goes : az_mp az_m_X7_goes 1 false := ⟨az_int 605 (by decide +kernel) rfl, az_int 1 (by decide +kernel) rfl, by decide +kernel, rfl, by decide +kernel, by decide +kernel, by decide +kernel, fun _ => ⟨az_int 603 (by decide +kernel) rfl, az_int 604 (by decide +kernel) rfl⟩, fun h => absurd h (by decide), az_co_X7_goes⟩
set_option maxRecDepth 100000 in
theorem az_mp_X7_worth : az_mp az_m_X7_worth 1 false := ⟨az_int 609 (by decide +kernel) rfl, az_int 1 (by decide +kernel) rfl, by decide +kernel, rfl, by decide +kernel, by decide +kernel, by decide +kernel, fun _ => ⟨az_int 607 (by decide +kernel) rfl, az_int 608 (by decide +kernel) rfl⟩, fun h => absurd h (by decide), az_co_X7_worth⟩
set_option maxRecDepth 100000 in
theorem az_mp_X7_after : az_mp az_m_X7_after 1 false := ⟨az_int 627 (by decide +kernel) rfl, az_int 1 (by decide +kernel) rfl, by decide +kernel, rfl, by decide +kernel, by decide +kernel, by decide +kernel, fun _ => ⟨az_int 625 (by decide +kernel) rfl, az_int 626 (by decide +kernel) rfl⟩, fun h => absurd h (by decide), az_co_X7_after⟩
set_option maxRecDepth 100000 in
theorem az_mp_X7_mean : az_mp az_m_X7_mean 1 false := ⟨az_int 640 (by decide +kernel) rfl, az_int 1 (by decide +kernel) rfl, by decide +kernel, rfl, by decide +kernel, by decide +kernel, by decide +kernel, fun _ => ⟨az_int 638 (by decide +kernel) rfl, az_int 639 (by decide +kernel) rfl⟩, fun h => absurd h (by decide), az_co_X7_mean⟩
set_option maxRecDepth 100000 in
theorem az_mp_X7_swing : az_mp az_m_X7_swing 1 false := ⟨az_int 645 (by decide +kernel) rfl, az_int 1 (by decide +kernel) rfl, by decide +kernel, rfl, by decide +kernel, by decide +kernel, by decide +kernel, fun _ => ⟨az_int 643 (by decide +kernel) rfl, az_int 644 (by decide +kernel) rfl⟩, fun h => absurd h (by decide), az_co_X7_swing⟩
set_option maxRecDepth 100000 in
theorem az_mp_X7_good : az_mp az_m_X7_good 1 false := ⟨az_int 655 (by decide +kernel) rfl, az_int 1 (by decide +kernel) rfl, by decide +kernel, rfl, by decide +kernel, by decide +kernel, by decide +kernel, fun _ => ⟨az_int 653 (by decide +kernel) rfl, az_int 654 (by decide +kernel) rfl⟩, fun h => absurd h (by decide), az_co_X7_good⟩
set_option maxRecDepth 100000 in
theorem az_mp_X7_again : az_mp az_m_X7_again 0 false := ⟨az_int 659 (by decide +kernel) rfl, az_int 1 (by decide +kernel) rfl, by decide +kernel, rfl, by decide +kernel, by decide +kernel, by decide +kernel, fun _ => ⟨az_int 657 (by decide +kernel) rfl, az_int 658 (by decide +kernel) rfl⟩, fun h => absurd h (by decide), az_co_X7_again⟩
set_option maxRecDepth 100000 in
theorem az_mp_X7_gains : az_mp az_m_X7_gains 2 false := ⟨az_int 667 (by decide +kernel) rfl, az_int 1 (by decide +kernel) rfl, by decide +kernel, rfl, by decide +kernel, by decide +kernel, by decide +kernel, fun _ => ⟨az_int 665 (by decide +kernel) rfl, az_int 666 (by decide +kernel) rfl⟩, fun h => absurd h (by decide), az_co_X7_gains⟩
set_option maxRecDepth 100000 in
theorem az_mp_X7_rests : az_mp az_m_X7_rests 0 false := ⟨az_int 675 (by decide +kernel) rfl, az_int 1 (by decide +kernel) rfl, by decide +kernel, rfl, by decide +kernel, by decide +kernel, by decide +kernel, fun _ => ⟨az_int 673 (by decide +kernel) rfl, az_int 674 (by decide +kernel) rfl⟩, fun h => absurd h (by decide), az_co_X7_rests⟩
set_option maxRecDepth 100000 in
theorem az_mp_X7_rest : az_mp az_m_X7_rest 1 false := ⟨az_int 716 (by decide +kernel) rfl, az_int 1 (by decide +kernel) rfl, by decide +kernel, rfl, by decide +kernel, by decide +kernel, by decide +kernel, fun _ => ⟨az_int 714 (by decide +kernel) rfl, az_int 715 (by decide +kernel) rfl⟩, fun h => absurd h (by decide), az_co_X7_rest⟩
set_option maxRecDepth 100000 in
theorem az_mp_X7_best : az_mp az_m_X7_best 1 false := ⟨az_int 752 (by decide +kernel) rfl, az_int 1 (by decide +kernel) rfl, by decide +kernel, rfl, by decide +kernel, by decide +kernel, by decide +kernel, fun _ => ⟨az_int 750 (by decide +kernel) rfl, az_int 751 (by decide +kernel) rfl⟩, fun h => absurd h (by decide), az_co_X7_best⟩
set_option maxRecDepth 100000 in
theorem az_mp_X7_off : az_mp az_m_X7_off 0 false := ⟨az_int 771 (by decide +kernel) rfl, az_int 1 (by decide +kernel) rfl, by decide +kernel, rfl, by decide +kernel, by decide +kernel, by decide +kernel, fun _ => ⟨az_int 769 (by decide +kernel) rfl, az_int 770 (by decide +kernel) rfl⟩, fun h => absurd h (by decide), az_co_X7_off⟩
set_option maxRecDepth 100000 in
theorem az_mp_X7_pennies : az_mp az_m_X7_pennies 0 false := ⟨az_int 780 (by decide +kernel) rfl, az_int 1 (by decide +kernel) rfl, by decide +kernel, rfl, by decide +kernel, by decide +kernel, by decide +kernel, fun _ => ⟨az_int 778 (by decide +kernel) rfl, az_int 779 (by decide +kernel) rfl⟩, fun h => absurd h (by decide), az_co_X7_pennies⟩
set_option maxRecDepth 100000 in
theorem az_mp_X7_chairs : az_mp az_m_X7_chairs 0 false := ⟨az_int 784 (by decide +kernel) rfl, az_int 1 (by decide +kernel) rfl, by decide +kernel, rfl, by decide +kernel, by decide +kernel, by decide +kernel, fun _ => ⟨az_int 782 (by decide +kernel) rfl, az_int 783 (by decide +kernel) rfl⟩, fun h => absurd h (by decide), az_co_X7_chairs⟩
set_option maxRecDepth 100000 in
theorem az_mp_X7_sees : az_mp az_m_X7_sees 4 false := ⟨az_int 788 (by decide +kernel) rfl, az_int 1 (by decide +kernel) rfl, by decide +kernel, rfl, by decide +kernel, by decide +kernel, by decide +kernel, fun _ => ⟨az_int 786 (by decide +kernel) rfl, az_int 787 (by decide +kernel) rfl⟩, fun h => absurd h (by decide), az_co_X7_sees⟩
set_option maxRecDepth 100000 in
theorem az_mp_X7_which : az_mp az_m_X7_which 1 false := ⟨az_int 793 (by decide +kernel) rfl, az_int 1 (by decide +kernel) rfl, by decide +kernel, rfl, by decide +kernel, by decide +kernel, by decide +kernel, fun _ => ⟨az_int 791 (by decide +kernel) rfl, az_int 792 (by decide +kernel) rfl⟩, fun h => absurd h (by decide), az_co_X7_which⟩
set_option maxRecDepth 100000 in
theorem az_mp_X7_longer : az_mp az_m_X7_longer 1 false := ⟨az_int 802 (by decide +kernel) rfl, az_int 1 (by decide +kernel) rfl, by decide +kernel, rfl, by decide +kernel, by decide +kernel, by decide +kernel, fun _ => ⟨az_int 800 (by decide +kernel) rfl, az_int 801 (by decide +kernel) rfl⟩, fun h => absurd h (by decide), az_co_X7_longer⟩
set_option maxRecDepth 100000 in
theorem az_mp_X7_seeds : az_mp az_m_X7_seeds 2 false := ⟨az_int 806 (by decide +kernel) rfl, az_int 1 (by decide +kernel) rfl, by decide +kernel, rfl, by decide +kernel, by decide +kernel, by decide +kernel, fun _ => ⟨az_int 804 (by decide +kernel) rfl, az_int 805 (by decide +kernel) rfl⟩, fun h => absurd h (by decide), az_co_X7_seeds⟩
set_option maxRecDepth 100000 in
theorem az_mp_X7_row : az_mp az_m_X7_row 1 false := ⟨az_int 817 (by decide +kernel) rfl, az_int 1 (by decide +kernel) rfl, by decide +kernel, rfl, by decide +kernel, by decide +kernel, by decide +kernel, fun _ => ⟨az_int 815 (by decide +kernel) rfl, az_int 816 (by decide +kernel) rfl⟩, fun h => absurd h (by decide), az_co_X7_row⟩
set_option maxRecDepth 100000 in
theorem az_mp_X7_judge : az_mp az_m_X7_judge 0 false := ⟨az_int 821 (by decide +kernel) rfl, az_int 1 (by decide +kernel) rfl, by decide +kernel, rfl, by decide +kernel, by decide +kernel, by decide +kernel, fun _ => ⟨az_int 819 (by decide +kernel) rfl, az_int 820 (by decide +kernel) rfl⟩, fun h => absurd h (by decide), az_co_X7_judge⟩
set_option maxRecDepth 100000 in
theorem az_mp_X7_image : az_mp az_m_X7_image 0 false := ⟨az_int 825 (by decide +kernel) rfl, az_int 1 (by decide +kernel) rfl, by decide +kernel, rfl, by decide +kernel, by decide +kernel, by decide +kernel, fun _ => ⟨az_int 823 (by decide +kernel) rfl, az_int 824 (by decide +kernel) rfl⟩, fun h => absurd h (by decide), az_co_X7_image⟩
set_option maxRecDepth 100000 in
theorem az_mp_X7_on : az_mp az_m_X7_on 0 false := ⟨az_int 829 (by decide +kernel) rfl, az_int 1 (by decide +kernel) rfl, by decide +kernel, rfl, by decide +kernel, by decide +kernel, by decide +kernel, fun _ => ⟨az_int 827 (by decide +kernel) rfl, az_int 828 (by decide +kernel) rfl⟩, fun h => absurd h (by decide), az_co_X7_on⟩
set_option maxRecDepth 100000 in
theorem az_mp_X7_count : az_mp az_m_X7_count 1 false := ⟨az_int 833 (by decide +kernel) rfl, az_int 1 (by decide +kernel) rfl, by decide +kernel, rfl, by decide +kernel, by decide +kernel, by decide +kernel, fun _ => ⟨az_int 831 (by decide +kernel) rfl, az_int 832 (by decide +kernel) rfl⟩, fun h => absurd h (by decide), az_co_X7_count⟩
set_option maxRecDepth 100000 in
theorem az_mp_X7_refuse : az_mp az_m_X7_refuse 1 false := ⟨az_int 270 (by decide +kernel) rfl, az_int 1 (by decide +kernel) rfl, by decide +kernel, rfl, by decide +kernel, by decide +kernel, by decide +kernel, fun _ => ⟨az_int 269 (by decide +kernel) rfl, az_ins 0 (by decide +kernel) rfl⟩, fun h => absurd h (by decide), az_co_X7_refuse⟩
set_option maxRecDepth 100000 in
theorem az_mp_X7_refuseWorth : az_mp az_m_X7_refuseWorth 1 false := ⟨az_int 613 (by decide +kernel) rfl, az_int 1 (by decide +kernel) rfl, by decide +kernel, rfl, by decide +kernel, by decide +kernel, by decide +kernel, fun _ => ⟨az_int 612 (by decide +kernel) rfl, az_ins 39 (by decide +kernel) rfl⟩, fun h => absurd h (by decide), az_co_X7_refuseWorth⟩
set_option maxRecDepth 100000 in
theorem az_mp_X7_lookAhead : az_mp az_m_X7_lookAhead 2 false := ⟨az_int 631 (by decide +kernel) rfl, az_int 1 (by decide +kernel) rfl, by decide +kernel, rfl, by decide +kernel, by decide +kernel, by decide +kernel, fun _ => ⟨az_int 630 (by decide +kernel) rfl, az_ins 42 (by decide +kernel) rfl⟩, fun h => absurd h (by decide), az_co_X7_lookAhead⟩
set_option maxRecDepth 100000 in
theorem az_mp_X7_swingOf : az_mp az_m_X7_swingOf 1 false := ⟨az_int 649 (by decide +kernel) rfl, az_int 1 (by decide +kernel) rfl, by decide +kernel, rfl, by decide +kernel, by decide +kernel, by decide +kernel, fun _ => ⟨az_int 648 (by decide +kernel) rfl, az_ins 44 (by decide +kernel) rfl⟩, fun h => absurd h (by decide), az_co_X7_swingOf⟩
set_option maxRecDepth 100000 in
theorem az_mp_X7_comesAgainAfter : az_mp az_m_X7_comesAgainAfter 1 false := ⟨az_int 663 (by decide +kernel) rfl, az_int 1 (by decide +kernel) rfl, by decide +kernel, rfl, by decide +kernel, by decide +kernel, by decide +kernel, fun _ => ⟨az_int 662 (by decide +kernel) rfl, az_ins 45 (by decide +kernel) rfl⟩, fun h => absurd h (by decide), az_co_X7_comesAgainAfter⟩
set_option maxRecDepth 100000 in
theorem az_mp_X7_gainsInMind : az_mp az_m_X7_gainsInMind 2 false := ⟨az_int 671 (by decide +kernel) rfl, az_int 1 (by decide +kernel) rfl, by decide +kernel, rfl, by decide +kernel, by decide +kernel, by decide +kernel, fun _ => ⟨az_int 670 (by decide +kernel) rfl, az_ins 46 (by decide +kernel) rfl⟩, fun h => absurd h (by decide), az_co_X7_gainsInMind⟩
set_option maxRecDepth 100000 in
theorem az_mp_X7_tallyRight : az_mp az_m_X7_tallyRight 1 false := ⟨az_int 797 (by decide +kernel) rfl, az_int 1 (by decide +kernel) rfl, by decide +kernel, rfl, by decide +kernel, by decide +kernel, by decide +kernel, fun _ => ⟨az_int 796 (by decide +kernel) rfl, az_ins 66 (by decide +kernel) rfl⟩, fun h => absurd h (by decide), az_co_X7_tallyRight⟩
set_option maxRecDepth 100000 in
theorem az_mp_X7_outside : az_mp az_m_X7_outside 3 true := ⟨az_int 266 (by decide +kernel) rfl, az_int 1 (by decide +kernel) rfl, by decide +kernel, rfl, by decide +kernel, by decide +kernel, by decide +kernel, fun h => absurd h (by decide), fun _ => az_int 265 (by decide +kernel) rfl, az_co_X7_outside⟩
set_option maxRecDepth 100000 in
theorem az_mp_X7_at : az_mp az_m_X7_at 2 true := ⟨az_int 273 (by decide +kernel) rfl, az_int 1 (by decide +kernel) rfl, by decide +kernel, rfl, by decide +kernel, by decide +kernel, by decide +kernel, fun h => absurd h (by decide), fun _ => az_int 272 (by decide +kernel) rfl, az_co_X7_at⟩
set_option maxRecDepth 100000 in
theorem az_mp_X7_put : az_mp az_m_X7_put 3 true := ⟨az_int 276 (by decide +kernel) rfl, az_int 1 (by decide +kernel) rfl, by decide +kernel, rfl, by decide +kernel, by decide +kernel, by decide +kernel, fun h => absurd h (by decide), fun _ => az_int 275 (by decide +kernel) rfl, az_co_X7_put⟩
set_option maxRecDepth 100000 in
theorem az_mp_X7_copyRow : az_mp az_m_X7_copyRow 2 true := ⟨az_int 299 (by decide +kernel) rfl, az_int 1 (by decide +kernel) rfl, by decide +kernel, rfl, by decide +kernel, by decide +kernel, by decide +kernel, fun h => absurd h (by decide), fun _ => az_int 298 (by decide +kernel) rfl, az_co_X7_copyRow⟩
set_option maxRecDepth 100000 in
theorem az_mp_X7_quotient : az_mp az_m_X7_quotient 2 true := ⟨az_int 545 (by decide +kernel) rfl, az_int 1 (by decide +kernel) rfl, by decide +kernel, rfl, by decide +kernel, by decide +kernel, by decide +kernel, fun h => absurd h (by decide), fun _ => az_int 544 (by decide +kernel) rfl, az_co_X7_quotient⟩
set_option maxRecDepth 100000 in
theorem az_mp_X7_remainder : az_mp az_m_X7_remainder 2 true := ⟨az_int 585 (by decide +kernel) rfl, az_int 1 (by decide +kernel) rfl, by decide +kernel, rfl, by decide +kernel, by decide +kernel, by decide +kernel, fun h => absurd h (by decide), fun _ => az_int 584 (by decide +kernel) rfl, az_co_X7_remainder⟩
set_option maxRecDepth 100000 in
theorem az_mp_X8_no : az_mp az_m_X8_no 1 false := ⟨az_int 850 (by decide +kernel) rfl, az_int 9 (by decide +kernel) rfl, by decide +kernel, rfl, by decide +kernel, by decide +kernel, by decide +kernel, fun _ => ⟨az_int 848 (by decide +kernel) rfl, az_ins 68 (by decide +kernel) rfl⟩, fun h => absurd h (by decide), az_co_X8_no⟩
set_option maxRecDepth 100000 in
theorem az_mp_X8_move : az_mp az_m_X8_move 2 true := ⟨az_int 841 (by decide +kernel) rfl, az_int 9 (by decide +kernel) rfl, by decide +kernel, rfl, by decide +kernel, by decide +kernel, by decide +kernel, fun h => absurd h (by decide), fun _ => az_int 840 (by decide +kernel) rfl, az_co_X8_move⟩
set_option maxRecDepth 100000 in
theorem az_mp_X8_image : az_mp az_m_X8_image 0 false := ⟨az_int 838 (by decide +kernel) rfl, az_int 9 (by decide +kernel) rfl, by decide +kernel, rfl, by decide +kernel, by decide +kernel, by decide +kernel, fun _ => ⟨az_int 836 (by decide +kernel) rfl, az_int 837 (by decide +kernel) rfl⟩, fun h => absurd h (by decide), az_co_X8_image⟩
set_option maxRecDepth 100000 in
theorem az_mp_X8_on : az_mp az_m_X8_on 0 false := ⟨az_int 845 (by decide +kernel) rfl, az_int 9 (by decide +kernel) rfl, by decide +kernel, rfl, by decide +kernel, by decide +kernel, by decide +kernel, fun _ => ⟨az_int 843 (by decide +kernel) rfl, az_int 844 (by decide +kernel) rfl⟩, fun h => absurd h (by decide), az_co_X8_on⟩
set_option maxRecDepth 100000 in
theorem az_mp_X8_of : az_mp az_m_X8_of 2 false := ⟨az_int 991 (by decide +kernel) rfl, az_int 9 (by decide +kernel) rfl, by decide +kernel, rfl, by decide +kernel, by decide +kernel, by decide +kernel, fun _ => ⟨az_int 990 (by decide +kernel) rfl, az_ins 78 (by decide +kernel) rfl⟩, fun h => absurd h (by decide), az_co_X8_of⟩
set_option maxRecDepth 100000 in
theorem az_mp_X8_people : az_mp az_m_X8_people 0 false := ⟨az_int 1007 (by decide +kernel) rfl, az_int 9 (by decide +kernel) rfl, by decide +kernel, rfl, by decide +kernel, by decide +kernel, by decide +kernel, fun _ => ⟨az_int 1006 (by decide +kernel) rfl, az_ins 81 (by decide +kernel) rfl⟩, fun h => absurd h (by decide), az_co_X8_people⟩
set_option maxRecDepth 100000 in
theorem az_mp_X8_letter : az_mp az_m_X8_letter 1 false := ⟨az_int 943 (by decide +kernel) rfl, az_int 9 (by decide +kernel) rfl, by decide +kernel, rfl, by decide +kernel, by decide +kernel, by decide +kernel, fun _ => ⟨az_int 941 (by decide +kernel) rfl, az_int 942 (by decide +kernel) rfl⟩, fun h => absurd h (by decide), az_co_X8_letter⟩
set_option maxRecDepth 100000 in
theorem az_mp_X8_expect : az_mp az_m_X8_expect 1 false := ⟨az_int 967 (by decide +kernel) rfl, az_int 9 (by decide +kernel) rfl, by decide +kernel, rfl, by decide +kernel, by decide +kernel, by decide +kernel, fun _ => ⟨az_int 966 (by decide +kernel) rfl, az_ins 73 (by decide +kernel) rfl⟩, fun h => absurd h (by decide), az_co_X8_expect⟩
set_option maxRecDepth 100000 in
theorem az_mp_X8_oneOf : az_mp az_m_X8_oneOf 1 false := ⟨az_int 959 (by decide +kernel) rfl, az_int 9 (by decide +kernel) rfl, by decide +kernel, rfl, by decide +kernel, by decide +kernel, by decide +kernel, fun _ => ⟨az_int 958 (by decide +kernel) rfl, az_ins 71 (by decide +kernel) rfl⟩, fun h => absurd h (by decide), az_co_X8_oneOf⟩
set_option maxRecDepth 100000 in
theorem az_mp_X8_figures : az_mp az_m_X8_figures 1 false := ⟨az_int 963 (by decide +kernel) rfl, az_int 9 (by decide +kernel) rfl, by decide +kernel, rfl, by decide +kernel, by decide +kernel, by decide +kernel, fun _ => ⟨az_int 962 (by decide +kernel) rfl, az_ins 72 (by decide +kernel) rfl⟩, fun h => absurd h (by decide), az_co_X8_figures⟩
set_option maxRecDepth 100000 in
theorem az_mp_X8_statement : az_mp az_m_X8_statement 0 false := ⟨az_int 955 (by decide +kernel) rfl, az_int 9 (by decide +kernel) rfl, by decide +kernel, rfl, by decide +kernel, by decide +kernel, by decide +kernel, fun _ => ⟨az_int 954 (by decide +kernel) rfl, az_ins 70 (by decide +kernel) rfl⟩, fun h => absurd h (by decide), az_co_X8_statement⟩
set_option maxRecDepth 100000 in
theorem az_mp_X8_isAsItMustBe : az_mp az_m_X8_isAsItMustBe 2 false := ⟨az_int 971 (by decide +kernel) rfl, az_int 9 (by decide +kernel) rfl, by decide +kernel, rfl, by decide +kernel, by decide +kernel, by decide +kernel, fun _ => ⟨az_int 970 (by decide +kernel) rfl, az_ins 74 (by decide +kernel) rfl⟩, fun h => absurd h (by decide), az_co_X8_isAsItMustBe⟩
set_option maxRecDepth 100000 in
theorem az_mp_X8_remember : az_mp az_m_X8_remember 1 false := ⟨az_int 979 (by decide +kernel) rfl, az_int 9 (by decide +kernel) rfl, by decide +kernel, rfl, by decide +kernel, by decide +kernel, by decide +kernel, fun _ => ⟨az_int 978 (by decide +kernel) rfl, az_ins 76 (by decide +kernel) rfl⟩, fun h => absurd h (by decide), az_co_X8_remember⟩
set_option maxRecDepth 100000 in
theorem az_mp_X8_come : az_mp az_m_X8_come 0 false := ⟨az_int 975 (by decide +kernel) rfl, az_int 9 (by decide +kernel) rfl, by decide +kernel, rfl, by decide +kernel, by decide +kernel, by decide +kernel, fun _ => ⟨az_int 974 (by decide +kernel) rfl, az_ins 75 (by decide +kernel) rfl⟩, fun h => absurd h (by decide), az_co_X8_come⟩
set_option maxRecDepth 100000 in
theorem az_mp_X8_read : az_mp az_m_X8_read 0 false := ⟨az_int 951 (by decide +kernel) rfl, az_int 9 (by decide +kernel) rfl, by decide +kernel, rfl, by decide +kernel, by decide +kernel, by decide +kernel, fun _ => ⟨az_int 950 (by decide +kernel) rfl, az_ins 69 (by decide +kernel) rfl⟩, fun h => absurd h (by decide), az_co_X8_read⟩
set_option maxRecDepth 100000 in
theorem az_mp_X8_town : az_mp az_m_X8_town 0 false := ⟨az_int 947 (by decide +kernel) rfl, az_int 9 (by decide +kernel) rfl, by decide +kernel, rfl, by decide +kernel, by decide +kernel, by decide +kernel, fun _ => ⟨az_int 945 (by decide +kernel) rfl, az_int 946 (by decide +kernel) rfl⟩, fun h => absurd h (by decide), az_co_X8_town⟩
set_option maxRecDepth 100000 in
theorem az_mp_X8_ago : az_mp az_m_X8_ago 1 false := ⟨az_int 1003 (by decide +kernel) rfl, az_int 9 (by decide +kernel) rfl, by decide +kernel, rfl, by decide +kernel, by decide +kernel, by decide +kernel, fun _ => ⟨az_int 1002 (by decide +kernel) rfl, az_ins 80 (by decide +kernel) rfl⟩, fun h => absurd h (by decide), az_co_X8_ago⟩
set_option maxRecDepth 100000 in
theorem az_mp_X8_foretold : az_mp az_m_X8_foretold 2 false := ⟨az_int 999 (by decide +kernel) rfl, az_int 9 (by decide +kernel) rfl, by decide +kernel, rfl, by decide +kernel, by decide +kernel, by decide +kernel, fun _ => ⟨az_int 998 (by decide +kernel) rfl, az_ins 79 (by decide +kernel) rfl⟩, fun h => absurd h (by decide), az_co_X8_foretold⟩
set_option maxRecDepth 100000 in
theorem az_mp_X8_isRoom : az_mp az_m_X8_isRoom 1 false := ⟨az_int 1032 (by decide +kernel) rfl, az_int 9 (by decide +kernel) rfl, by decide +kernel, rfl, by decide +kernel, by decide +kernel, by decide +kernel, fun _ => ⟨az_int 1031 (by decide +kernel) rfl, az_ins 84 (by decide +kernel) rfl⟩, fun h => absurd h (by decide), az_co_X8_isRoom⟩
set_option maxRecDepth 100000 in
theorem az_mp_X8_hat : az_mp az_m_X8_hat 1 false := ⟨az_int 1036 (by decide +kernel) rfl, az_int 9 (by decide +kernel) rfl, by decide +kernel, rfl, by decide +kernel, by decide +kernel, by decide +kernel, fun _ => ⟨az_int 1035 (by decide +kernel) rfl, az_ins 85 (by decide +kernel) rfl⟩, fun h => absurd h (by decide), az_co_X8_hat⟩
set_option maxRecDepth 100000 in
theorem az_mp_X8_present : az_mp az_m_X8_present 0 false := ⟨az_int 1028 (by decide +kernel) rfl, az_int 9 (by decide +kernel) rfl, by decide +kernel, rfl, by decide +kernel, by decide +kernel, by decide +kernel, fun _ => ⟨az_int 1027 (by decide +kernel) rfl, az_ins 83 (by decide +kernel) rfl⟩, fun h => absurd h (by decide), az_co_X8_present⟩
set_option maxRecDepth 100000 in
theorem az_mp_X8_worthGone : az_mp az_m_X8_worthGone 2 false := ⟨az_int 1057 (by decide +kernel) rfl, az_int 9 (by decide +kernel) rfl, by decide +kernel, rfl, by decide +kernel, by decide +kernel, by decide +kernel, fun _ => ⟨az_int 1056 (by decide +kernel) rfl, az_ins 87 (by decide +kernel) rfl⟩, fun h => absurd h (by decide), az_co_X8_worthGone⟩
set_option maxRecDepth 100000 in
theorem az_mp_X8_worthNext : az_mp az_m_X8_worthNext 2 false := ⟨az_int 1053 (by decide +kernel) rfl, az_int 9 (by decide +kernel) rfl, by decide +kernel, rfl, by decide +kernel, by decide +kernel, by decide +kernel, fun _ => ⟨az_int 1052 (by decide +kernel) rfl, az_ins 86 (by decide +kernel) rfl⟩, fun h => absurd h (by decide), az_co_X8_worthNext⟩
set_option maxRecDepth 100000 in
theorem az_mp_X8_goOn : az_mp az_m_X8_goOn 0 false := ⟨az_int 1024 (by decide +kernel) rfl, az_int 9 (by decide +kernel) rfl, by decide +kernel, rfl, by decide +kernel, by decide +kernel, by decide +kernel, fun _ => ⟨az_int 1023 (by decide +kernel) rfl, az_ins 82 (by decide +kernel) rfl⟩, fun h => absurd h (by decide), az_co_X8_goOn⟩
set_option maxRecDepth 100000 in
theorem az_mp_X8_isNoSort : az_mp az_m_X8_isNoSort 1 false := ⟨az_int 987 (by decide +kernel) rfl, az_int 9 (by decide +kernel) rfl, by decide +kernel, rfl, by decide +kernel, by decide +kernel, by decide +kernel, fun _ => ⟨az_int 986 (by decide +kernel) rfl, az_ins 77 (by decide +kernel) rfl⟩, fun h => absurd h (by decide), az_co_X8_isNoSort⟩
set_option maxRecDepth 100000 in
theorem az_mp_X8_sort : az_mp az_m_X8_sort 2 false := ⟨az_int 983 (by decide +kernel) rfl, az_int 9 (by decide +kernel) rfl, by decide +kernel, rfl, by decide +kernel, by decide +kernel, by decide +kernel, fun _ => ⟨az_int 981 (by decide +kernel) rfl, az_int 982 (by decide +kernel) rfl⟩, fun h => absurd h (by decide), az_co_X8_sort⟩
set_option maxRecDepth 100000 in
theorem az_mp_X8_rule : az_mp az_m_X8_rule 2 false := ⟨az_int 995 (by decide +kernel) rfl, az_int 9 (by decide +kernel) rfl, by decide +kernel, rfl, by decide +kernel, by decide +kernel, by decide +kernel, fun _ => ⟨az_int 993 (by decide +kernel) rfl, az_int 994 (by decide +kernel) rfl⟩, fun h => absurd h (by decide), az_co_X8_rule⟩
set_option maxRecDepth 100000 in
theorem az_mp_X8_remembered : az_mp az_m_X8_remembered 1 false := ⟨az_int 1012 (by decide +kernel) rfl, az_int 9 (by decide +kernel) rfl, by decide +kernel, rfl, by decide +kernel, by decide +kernel, by decide +kernel, fun _ => ⟨az_int 1010 (by decide +kernel) rfl, az_int 1011 (by decide +kernel) rfl⟩, fun h => absurd h (by decide), az_co_X8_remembered⟩
set_option maxRecDepth 100000 in
theorem az_mp_X8_penny : az_mp az_m_X8_penny 1 false := ⟨az_int 1016 (by decide +kernel) rfl, az_int 9 (by decide +kernel) rfl, by decide +kernel, rfl, by decide +kernel, by decide +kernel, by decide +kernel, fun _ => ⟨az_int 1014 (by decide +kernel) rfl, az_int 1015 (by decide +kernel) rfl⟩, fun h => absurd h (by decide), az_co_X8_penny⟩
set_option maxRecDepth 100000 in
theorem az_mp_X8_week : az_mp az_m_X8_week 0 false := ⟨az_int 1020 (by decide +kernel) rfl, az_int 9 (by decide +kernel) rfl, by decide +kernel, rfl, by decide +kernel, by decide +kernel, by decide +kernel, fun _ => ⟨az_int 1018 (by decide +kernel) rfl, az_int 1019 (by decide +kernel) rfl⟩, fun h => absurd h (by decide), az_co_X8_week⟩
set_option maxRecDepth 100000 in
theorem az_mp_X8_next : az_mp az_m_X8_next 0 false := ⟨az_int 1040 (by decide +kernel) rfl, az_int 9 (by decide +kernel) rfl, by decide +kernel, rfl, by decide +kernel, by decide +kernel, by decide +kernel, fun _ => ⟨az_int 1038 (by decide +kernel) rfl, az_int 1039 (by decide +kernel) rfl⟩, fun h => absurd h (by decide), az_co_X8_next⟩
set_option maxRecDepth 100000 in
theorem az_mp_X8_goes : az_mp az_m_X8_goes 1 false := ⟨az_int 1044 (by decide +kernel) rfl, az_int 9 (by decide +kernel) rfl, by decide +kernel, rfl, by decide +kernel, by decide +kernel, by decide +kernel, fun _ => ⟨az_int 1042 (by decide +kernel) rfl, az_int 1043 (by decide +kernel) rfl⟩, fun h => absurd h (by decide), az_co_X8_goes⟩
set_option maxRecDepth 100000 in
theorem az_mp_X8_worth : az_mp az_m_X8_worth 1 false := ⟨az_int 1048 (by decide +kernel) rfl, az_int 9 (by decide +kernel) rfl, by decide +kernel, rfl, by decide +kernel, by decide +kernel, by decide +kernel, fun _ => ⟨az_int 1046 (by decide +kernel) rfl, az_int 1047 (by decide +kernel) rfl⟩, fun h => absurd h (by decide), az_co_X8_worth⟩
set_option maxRecDepth 100000 in
theorem az_mp_X8_isWrong : az_mp az_m_X8_isWrong 2 false := ⟨az_int 1065 (by decide +kernel) rfl, az_int 9 (by decide +kernel) rfl, by decide +kernel, rfl, by decide +kernel, by decide +kernel, by decide +kernel, fun _ => ⟨az_int 1064 (by decide +kernel) rfl, az_ins 88 (by decide +kernel) rfl⟩, fun h => absurd h (by decide), az_co_X8_isWrong⟩
set_option maxRecDepth 100000 in
theorem az_mp_X8_goAhead : az_mp az_m_X8_goAhead 2 false := ⟨az_int 1069 (by decide +kernel) rfl, az_int 9 (by decide +kernel) rfl, by decide +kernel, rfl, by decide +kernel, by decide +kernel, by decide +kernel, fun _ => ⟨az_int 1068 (by decide +kernel) rfl, az_ins 89 (by decide +kernel) rfl⟩, fun h => absurd h (by decide), az_co_X8_goAhead⟩
set_option maxRecDepth 100000 in
theorem az_mp_X8_swungIn : az_mp az_m_X8_swungIn 1 false := ⟨az_int 1081 (by decide +kernel) rfl, az_int 9 (by decide +kernel) rfl, by decide +kernel, rfl, by decide +kernel, by decide +kernel, by decide +kernel, fun _ => ⟨az_int 1080 (by decide +kernel) rfl, az_ins 90 (by decide +kernel) rfl⟩, fun h => absurd h (by decide), az_co_X8_swungIn⟩
set_option maxRecDepth 100000 in
theorem az_mp_X8_after : az_mp az_m_X8_after 1 false := ⟨az_int 1061 (by decide +kernel) rfl, az_int 9 (by decide +kernel) rfl, by decide +kernel, rfl, by decide +kernel, by decide +kernel, by decide +kernel, fun _ => ⟨az_int 1059 (by decide +kernel) rfl, az_int 1060 (by decide +kernel) rfl⟩, fun h => absurd h (by decide), az_co_X8_after⟩
set_option maxRecDepth 100000 in
theorem az_mp_X8_mean : az_mp az_m_X8_mean 1 false := ⟨az_int 1073 (by decide +kernel) rfl, az_int 9 (by decide +kernel) rfl, by decide +kernel, rfl, by decide +kernel, by decide +kernel, by decide +kernel, fun _ => ⟨az_int 1071 (by decide +kernel) rfl, az_int 1072 (by decide +kernel) rfl⟩, fun h => absurd h (by decide), az_co_X8_mean⟩
set_option maxRecDepth 100000 in
theorem az_mp_X8_swing : az_mp az_m_X8_swing 1 false := ⟨az_int 1077 (by decide +kernel) rfl, az_int 9 (by decide +kernel) rfl, by decide +kernel, rfl, by decide +kernel, by decide +kernel, by decide +kernel, fun _ => ⟨az_int 1075 (by decide +kernel) rfl, az_int 1076 (by decide +kernel) rfl⟩, fun h => absurd h (by decide), az_co_X8_swing⟩
set_option maxRecDepth 100000 in
theorem az_mp_X8_good : az_mp az_m_X8_good 1 false := ⟨az_int 1086 (by decide +kernel) rfl, az_int 9 (by decide +kernel) rfl, by decide +kernel, rfl, by decide +kernel, by decide +kernel, by decide +kernel, fun _ => ⟨az_int 1084 (by decide +kernel) rfl, az_int 1085 (by decide +kernel) rfl⟩, fun h => absurd h (by decide), az_co_X8_good⟩
set_option maxRecDepth 100000 in
theorem az_mp_X8_again : az_mp az_m_X8_again 0 false := ⟨az_int 1090 (by decide +kernel) rfl, az_int 9 (by decide +kernel) rfl, by decide +kernel, rfl, by decide +kernel, by decide +kernel, by decide +kernel, fun _ => ⟨az_int 1088 (by decide +kernel) rfl, az_int 1089 (by decide +kernel) rfl⟩, fun h => absurd h (by decide), az_co_X8_again⟩
set_option maxRecDepth 100000 in
theorem az_mp_X8_gains : az_mp az_m_X8_gains 2 false := ⟨az_int 1094 (by decide +kernel) rfl, az_int 9 (by decide +kernel) rfl, by decide +kernel, rfl, by decide +kernel, by decide +kernel, by decide +kernel, fun _ => ⟨az_int 1092 (by decide +kernel) rfl, az_int 1093 (by decide +kernel) rfl⟩, fun h => absurd h (by decide), az_co_X8_gains⟩
set_option maxRecDepth 100000 in
theorem az_mp_X8_begin : az_mp az_m_X8_begin 0 false := ⟨az_int 1106 (by decide +kernel) rfl, az_int 9 (by decide +kernel) rfl, by decide +kernel, rfl, by decide +kernel, by decide +kernel, by decide +kernel, fun _ => ⟨az_int 1105 (by decide +kernel) rfl, az_ins 92 (by decide +kernel) rfl⟩, fun h => absurd h (by decide), az_co_X8_begin⟩
set_option maxRecDepth 100000 in
theorem az_mp_X8_isNextPlan : az_mp az_m_X8_isNextPlan 0 false := ⟨az_int 1114 (by decide +kernel) rfl, az_int 9 (by decide +kernel) rfl, by decide +kernel, rfl, by decide +kernel, by decide +kernel, by decide +kernel, fun _ => ⟨az_int 1113 (by decide +kernel) rfl, az_ins 94 (by decide +kernel) rfl⟩, fun h => absurd h (by decide), az_co_X8_isNextPlan⟩
set_option maxRecDepth 100000 in
theorem az_mp_X8_isAtRest : az_mp az_m_X8_isAtRest 1 false := ⟨az_int 1110 (by decide +kernel) rfl, az_int 9 (by decide +kernel) rfl, by decide +kernel, rfl, by decide +kernel, by decide +kernel, by decide +kernel, fun _ => ⟨az_int 1109 (by decide +kernel) rfl, az_ins 93 (by decide +kernel) rfl⟩, fun h => absurd h (by decide), az_co_X8_isAtRest⟩
set_option maxRecDepth 100000 in
theorem az_mp_X8_goThrough : az_mp az_m_X8_goThrough 0 false := ⟨az_int 1102 (by decide +kernel) rfl, az_int 9 (by decide +kernel) rfl, by decide +kernel, rfl, by decide +kernel, by decide +kernel, by decide +kernel, fun _ => ⟨az_int 1101 (by decide +kernel) rfl, az_ins 91 (by decide +kernel) rfl⟩, fun h => absurd h (by decide), az_co_X8_goThrough⟩
set_option maxRecDepth 100000 in
theorem az_mp_X8_rests : az_mp az_m_X8_rests 0 false := ⟨az_int 1098 (by decide +kernel) rfl, az_int 9 (by decide +kernel) rfl, by decide +kernel, rfl, by decide +kernel, by decide +kernel, by decide +kernel, fun _ => ⟨az_int 1096 (by decide +kernel) rfl, az_int 1097 (by decide +kernel) rfl⟩, fun h => absurd h (by decide), az_co_X8_rests⟩
set_option maxRecDepth 100000 in
theorem az_mp_X8_rest : az_mp az_m_X8_rest 1 false := ⟨az_int 1118 (by decide +kernel) rfl, az_int 9 (by decide +kernel) rfl, by decide +kernel, rfl, by decide +kernel, by decide +kernel, by decide +kernel, fun _ => ⟨az_int 1116 (by decide +kernel) rfl, az_int 1117 (by decide +kernel) rfl⟩, fun h => absurd h (by decide), az_co_X8_rest⟩
set_option maxRecDepth 100000 in
theorem az_mp_X8_best : az_mp az_m_X8_best 1 false := ⟨az_int 1122 (by decide +kernel) rfl, az_int 9 (by decide +kernel) rfl, by decide +kernel, rfl, by decide +kernel, by decide +kernel, by decide +kernel, fun _ => ⟨az_int 1120 (by decide +kernel) rfl, az_int 1121 (by decide +kernel) rfl⟩, fun h => absurd h (by decide), az_co_X8_best⟩
set_option maxRecDepth 100000 in
theorem az_mp_X8_off : az_mp az_m_X8_off 0 false := ⟨az_int 1126 (by decide +kernel) rfl, az_int 9 (by decide +kernel) rfl, by decide +kernel, rfl, by decide +kernel, by decide +kernel, by decide +kernel, fun _ => ⟨az_int 1124 (by decide +kernel) rfl, az_int 1125 (by decide +kernel) rfl⟩, fun h => absurd h (by decide), az_co_X8_off⟩
set_option maxRecDepth 100000 in
theorem az_mp_X8_pennies : az_mp az_m_X8_pennies 0 false := ⟨az_int 1130 (by decide +kernel) rfl, az_int 9 (by decide +kernel) rfl, by decide +kernel, rfl, by decide +kernel, by decide +kernel, by decide +kernel, fun _ => ⟨az_int 1128 (by decide +kernel) rfl, az_int 1129 (by decide +kernel) rfl⟩, fun h => absurd h (by decide), az_co_X8_pennies⟩
set_option maxRecDepth 100000 in
theorem az_mp_X8_chairs : az_mp az_m_X8_chairs 0 false := ⟨az_int 1134 (by decide +kernel) rfl, az_int 9 (by decide +kernel) rfl, by decide +kernel, rfl, by decide +kernel, by decide +kernel, by decide +kernel, fun _ => ⟨az_int 1132 (by decide +kernel) rfl, az_int 1133 (by decide +kernel) rfl⟩, fun h => absurd h (by decide), az_co_X8_chairs⟩
set_option maxRecDepth 100000 in
theorem az_mp_X8_sees : az_mp az_m_X8_sees 4 false := ⟨az_int 1138 (by decide +kernel) rfl, az_int 9 (by decide +kernel) rfl, by decide +kernel, rfl, by decide +kernel, by decide +kernel, by decide +kernel, fun _ => ⟨az_int 1136 (by decide +kernel) rfl, az_int 1137 (by decide +kernel) rfl⟩, fun h => absurd h (by decide), az_co_X8_sees⟩
set_option maxRecDepth 100000 in
theorem az_mp_X8_which : az_mp az_m_X8_which 1 false := ⟨az_int 1142 (by decide +kernel) rfl, az_int 9 (by decide +kernel) rfl, by decide +kernel, rfl, by decide +kernel, by decide +kernel, by decide +kernel, fun _ => ⟨az_int 1140 (by decide +kernel) rfl, az_int 1141 (by decide +kernel) rfl⟩, fun h => absurd h (by decide), az_co_X8_which⟩
set_option maxRecDepth 100000 in
theorem az_mp_X8_longer : az_mp az_m_X8_longer 1 false := ⟨az_int 1146 (by decide +kernel) rfl, az_int 9 (by decide +kernel) rfl, by decide +kernel, rfl, by decide +kernel, by decide +kernel, by decide +kernel, fun _ => ⟨az_int 1144 (by decide +kernel) rfl, az_int 1145 (by decide +kernel) rfl⟩, fun h => absurd h (by decide), az_co_X8_longer⟩
set_option maxRecDepth 100000 in
theorem az_mp_X8_seeds : az_mp az_m_X8_seeds 2 false := ⟨az_int 1150 (by decide +kernel) rfl, az_int 9 (by decide +kernel) rfl, by decide +kernel, rfl, by decide +kernel, by decide +kernel, by decide +kernel, fun _ => ⟨az_int 1148 (by decide +kernel) rfl, az_int 1149 (by decide +kernel) rfl⟩, fun h => absurd h (by decide), az_co_X8_seeds⟩
set_option maxRecDepth 100000 in
theorem az_mp_X8_row : az_mp az_m_X8_row 1 false := ⟨az_int 1157 (by decide +kernel) rfl, az_int 9 (by decide +kernel) rfl, by decide +kernel, rfl, by decide +kernel, by decide +kernel, by decide +kernel, fun _ => ⟨az_int 1155 (by decide +kernel) rfl, az_int 1156 (by decide +kernel) rfl⟩, fun h => absurd h (by decide), az_co_X8_row⟩
set_option maxRecDepth 100000 in
theorem az_mp_X8_judge : az_mp az_m_X8_judge 0 false := ⟨az_int 1161 (by decide +kernel) rfl, az_int 9 (by decide +kernel) rfl, by decide +kernel, rfl, by decide +kernel, by decide +kernel, by decide +kernel, fun _ => ⟨az_int 1159 (by decide +kernel) rfl, az_int 1160 (by decide +kernel) rfl⟩, fun h => absurd h (by decide), az_co_X8_judge⟩
set_option maxRecDepth 100000 in
theorem az_mp_X8_count : az_mp az_m_X8_count 1 false := ⟨az_int 1165 (by decide +kernel) rfl, az_int 9 (by decide +kernel) rfl, by decide +kernel, rfl, by decide +kernel, by decide +kernel, by decide +kernel, fun _ => ⟨az_int 1163 (by decide +kernel) rfl, az_int 1164 (by decide +kernel) rfl⟩, fun h => absurd h (by decide), az_co_X8_count⟩
set_option maxRecDepth 100000 in
theorem az_mp_J0_length_8abf5 : az_mp az_m_J0_length_8abf5 0 false := ⟨az_int 346 (by decide +kernel) rfl, az_int 11 (by decide +kernel) rfl, by decide +kernel, rfl, by decide +kernel, by decide +kernel, by decide +kernel, fun _ => ⟨az_int 344 (by decide +kernel) rfl, az_int 345 (by decide +kernel) rfl⟩, fun h => absurd h (by decide), az_co_J0_length_8abf5⟩
set_option maxRecDepth 100000 in
theorem az_mp_J0_isEmpty_aae02 : az_mp az_m_J0_isEmpty_aae02 0 false := ⟨az_int 342 (by decide +kernel) rfl, az_int 11 (by decide +kernel) rfl, by decide +kernel, rfl, by decide +kernel, by decide +kernel, by decide +kernel, fun _ => ⟨az_int 340 (by decide +kernel) rfl, az_int 341 (by decide +kernel) rfl⟩, fun h => absurd h (by decide), az_co_J0_isEmpty_aae02⟩
set_option maxRecDepth 100000 in
theorem az_mp_J0_charAt_5068e : az_mp az_m_J0_charAt_5068e 1 false := ⟨az_int 356 (by decide +kernel) rfl, az_int 11 (by decide +kernel) rfl, by decide +kernel, rfl, by decide +kernel, by decide +kernel, by decide +kernel, fun _ => ⟨az_int 354 (by decide +kernel) rfl, az_int 355 (by decide +kernel) rfl⟩, fun h => absurd h (by decide), az_co_J0_charAt_5068e⟩
set_option maxRecDepth 100000 in
theorem az_mp_J0_indexOf_0f7a4 : az_mp az_m_J0_indexOf_0f7a4 1 false := ⟨az_int 403 (by decide +kernel) rfl, az_int 11 (by decide +kernel) rfl, by decide +kernel, rfl, by decide +kernel, by decide +kernel, by decide +kernel, fun _ => ⟨az_int 401 (by decide +kernel) rfl, az_int 402 (by decide +kernel) rfl⟩, fun h => absurd h (by decide), az_co_J0_indexOf_0f7a4⟩
set_option maxRecDepth 100000 in
theorem az_mp_J0_indexOf_7cf53 : az_mp az_m_J0_indexOf_7cf53 2 false := ⟨az_int 407 (by decide +kernel) rfl, az_int 11 (by decide +kernel) rfl, by decide +kernel, rfl, by decide +kernel, by decide +kernel, by decide +kernel, fun _ => ⟨az_int 405 (by decide +kernel) rfl, az_int 406 (by decide +kernel) rfl⟩, fun h => absurd h (by decide), az_co_J0_indexOf_7cf53⟩
set_option maxRecDepth 100000 in
theorem az_mp_J0_coder_7d493 : az_mp az_m_J0_coder_7d493 0 false := ⟨az_int 350 (by decide +kernel) rfl, az_int 11 (by decide +kernel) rfl, by decide +kernel, rfl, by decide +kernel, by decide +kernel, by decide +kernel, fun _ => ⟨az_int 348 (by decide +kernel) rfl, az_int 349 (by decide +kernel) rfl⟩, fun h => absurd h (by decide), az_co_J0_coder_7d493⟩
set_option maxRecDepth 100000 in
theorem az_mp_J0_isLatin1_aae02 : az_mp az_m_J0_isLatin1_aae02 0 false := ⟨az_int 360 (by decide +kernel) rfl, az_int 11 (by decide +kernel) rfl, by decide +kernel, rfl, by decide +kernel, by decide +kernel, by decide +kernel, fun _ => ⟨az_int 358 (by decide +kernel) rfl, az_int 359 (by decide +kernel) rfl⟩, fun h => absurd h (by decide), az_co_J0_isLatin1_aae02⟩
set_option maxRecDepth 100000 in
theorem az_mp_J1_charAt_3b067 : az_mp az_m_J1_charAt_3b067 2 true := ⟨az_int 363 (by decide +kernel) rfl, az_int 12 (by decide +kernel) rfl, by decide +kernel, rfl, by decide +kernel, by decide +kernel, by decide +kernel, fun h => absurd h (by decide), fun _ => az_int 362 (by decide +kernel) rfl, az_co_J1_charAt_3b067⟩
set_option maxRecDepth 100000 in
theorem az_mp_J1_canEncode_9a6ad : az_mp az_m_J1_canEncode_9a6ad 1 true := ⟨az_int 414 (by decide +kernel) rfl, az_int 12 (by decide +kernel) rfl, by decide +kernel, rfl, by decide +kernel, by decide +kernel, by decide +kernel, fun h => absurd h (by decide), fun _ => az_int 413 (by decide +kernel) rfl, az_co_J1_canEncode_9a6ad⟩
set_option maxRecDepth 100000 in
theorem az_mp_J1_indexOf_4cfef : az_mp az_m_J1_indexOf_4cfef 4 true := ⟨az_int 411 (by decide +kernel) rfl, az_int 12 (by decide +kernel) rfl, by decide +kernel, rfl, by decide +kernel, by decide +kernel, by decide +kernel, fun h => absurd h (by decide), fun _ => az_int 410 (by decide +kernel) rfl, az_co_J1_indexOf_4cfef⟩
set_option maxRecDepth 100000 in
theorem az_mp_J1_indexOfChar_4cfef : az_mp az_m_J1_indexOfChar_4cfef 4 true := ⟨az_int 421 (by decide +kernel) rfl, az_int 12 (by decide +kernel) rfl, by decide +kernel, rfl, by decide +kernel, by decide +kernel, by decide +kernel, fun h => absurd h (by decide), fun _ => az_int 420 (by decide +kernel) rfl, az_co_J1_indexOfChar_4cfef⟩
set_option maxRecDepth 100000 in
theorem az_mp_J0_checkIndex_df160 : az_mp az_m_J0_checkIndex_df160 2 true := ⟨az_int 366 (by decide +kernel) rfl, az_int 11 (by decide +kernel) rfl, by decide +kernel, rfl, by decide +kernel, by decide +kernel, by decide +kernel, fun h => absurd h (by decide), fun _ => az_int 365 (by decide +kernel) rfl, az_co_J0_checkIndex_df160⟩
set_option maxRecDepth 100000 in
theorem az_mp_J3_checkIndex_8e157 : az_mp az_m_J3_checkIndex_8e157 3 true := ⟨az_int 371 (by decide +kernel) rfl, az_int 13 (by decide +kernel) rfl, by decide +kernel, rfl, by decide +kernel, by decide +kernel, by decide +kernel, fun h => absurd h (by decide), fun _ => az_int 370 (by decide +kernel) rfl, az_co_J3_checkIndex_8e157⟩
set_option maxRecDepth 100000 in
theorem az_ml_0_37 : az_mlp 0 37 3 az_m_X7_put 3 := ⟨_, _, az_mp_X7_put, Or.inr (Or.inr (Or.inr ⟨rfl, rfl, rfl, ⟨"GoodHalfEmpty", az_inn 697 (by decide +kernel) rfl⟩⟩))⟩
set_option maxRecDepth 100000 in
theorem az_ml_0_47 : az_mlp 0 47 3 az_m_X7_at 2 := ⟨_, _, az_mp_X7_at, Or.inr (Or.inr (Or.inr ⟨rfl, rfl, rfl, ⟨"GoodHalfEmpty", az_inn 707 (by decide +kernel) rfl⟩⟩))⟩
set_option maxRecDepth 100000 in
theorem az_ml_0_51 : az_mlp 0 51 0 az_m_X0_hasPlan 1 := ⟨_, _, az_mp_X0_hasPlan, Or.inl ⟨rfl, rfl, rfl, az_int 703 (by decide +kernel) rfl⟩⟩
set_option maxRecDepth 100000 in
theorem az_ml_0_55 : az_mlp 0 55 0 az_m_X0_countWays 1 := ⟨_, _, az_mp_X0_countWays, Or.inl ⟨rfl, rfl, rfl, az_int 708 (by decide +kernel) rfl⟩⟩
set_option maxRecDepth 100000 in
theorem az_ml_0_61 : az_mlp 0 61 0 az_m_X0_greatestGain 2 := ⟨_, _, az_mp_X0_greatestGain, Or.inl ⟨rfl, rfl, rfl, az_int 736 (by decide +kernel) rfl⟩⟩
set_option maxRecDepth 100000 in
theorem az_ml_0_66 : az_mlp 0 66 0 az_m_X0_greatestWorth 1 := ⟨_, _, az_mp_X0_greatestWorth, Or.inl ⟨rfl, rfl, rfl, az_int 732 (by decide +kernel) rfl⟩⟩
set_option maxRecDepth 100000 in
theorem az_ml_0_ok : ∀ q ∈ az_ml_0, az_mlp 0 q.1 q.2.1 q.2.2.1 q.2.2.2 := List.forall_mem_cons.mpr ⟨az_ml_0_37, List.forall_mem_cons.mpr ⟨az_ml_0_47, List.forall_mem_cons.mpr ⟨az_ml_0_51, List.forall_mem_cons.mpr ⟨az_ml_0_55, List.forall_mem_cons.mpr ⟨az_ml_0_61, List.forall_mem_cons.mpr ⟨az_ml_0_66, fun _ h => absurd h List.not_mem_nil⟩⟩⟩⟩⟩⟩
set_option maxRecDepth 100000 in
theorem az_ml_1_19 : az_mlp 1 19 3 az_m_X7_copyRow 2 := ⟨_, _, az_mp_X7_copyRow, Or.inr (Or.inr (Or.inr ⟨rfl, rfl, rfl, ⟨"GoodHalfEmpty", az_inn 309 (by decide +kernel) rfl⟩⟩))⟩
set_option maxRecDepth 100000 in
theorem az_ml_1_23 : az_mlp 1 23 3 az_m_X7_at 2 := ⟨_, _, az_mp_X7_at, Or.inr (Or.inr (Or.inr ⟨rfl, rfl, rfl, ⟨"GoodHalfEmpty", az_inn 482 (by decide +kernel) rfl⟩⟩))⟩
set_option maxRecDepth 100000 in
theorem az_ml_1_27 : az_mlp 1 27 3 az_m_X7_put 3 := ⟨_, _, az_mp_X7_put, Or.inr (Or.inr (Or.inr ⟨rfl, rfl, rfl, ⟨"GoodHalfEmpty", az_inn 483 (by decide +kernel) rfl⟩⟩))⟩
set_option maxRecDepth 100000 in
theorem az_ml_1_ok : ∀ q ∈ az_ml_1, az_mlp 1 q.1 q.2.1 q.2.2.1 q.2.2.2 := List.forall_mem_cons.mpr ⟨az_ml_1_19, List.forall_mem_cons.mpr ⟨az_ml_1_23, List.forall_mem_cons.mpr ⟨az_ml_1_27, fun _ h => absurd h List.not_mem_nil⟩⟩⟩
set_option maxRecDepth 100000 in
theorem az_ml_2_30 : az_mlp 2 30 0 az_m_X2_boxResting 5 := ⟨_, _, az_mp_X2_boxResting, Or.inl ⟨rfl, rfl, rfl, az_int 680 (by decide +kernel) rfl⟩⟩
set_option maxRecDepth 100000 in
theorem az_ml_2_34 : az_mlp 2 34 1 az_m_X0_plans 1 := ⟨_, _, az_mp_X0_plans, Or.inr (Or.inl ⟨rfl, rfl, rfl, ⟨"GoodHalfEmpty", az_inn 699 (by decide +kernel) rfl⟩⟩)⟩
set_option maxRecDepth 100000 in
theorem az_ml_2_38 : az_mlp 2 38 1 az_m_X0_hasPlan 1 := ⟨_, _, az_mp_X0_hasPlan, Or.inr (Or.inl ⟨rfl, rfl, rfl, ⟨"GoodHalfEmpty", az_inn 721 (by decide +kernel) rfl⟩⟩)⟩
set_option maxRecDepth 100000 in
theorem az_ml_2_43 : az_mlp 2 43 0 az_m_X2_offerFirst 2 := ⟨_, _, az_mp_X2_offerFirst, Or.inl ⟨rfl, rfl, rfl, az_int 723 (by decide +kernel) rfl⟩⟩
set_option maxRecDepth 100000 in
theorem az_ml_2_47 : az_mlp 2 47 1 az_m_X0_greatestWorth 1 := ⟨_, _, az_mp_X0_greatestWorth, Or.inr (Or.inl ⟨rfl, rfl, rfl, ⟨"GoodHalfEmpty", az_inn 761 (by decide +kernel) rfl⟩⟩)⟩
set_option maxRecDepth 100000 in
theorem az_ml_2_56 : az_mlp 2 56 0 az_m_X2_boxAll 5 := ⟨_, _, az_mp_X2_boxAll, Or.inl ⟨rfl, rfl, rfl, az_int 757 (by decide +kernel) rfl⟩⟩
set_option maxRecDepth 100000 in
theorem az_ml_2_59 : az_mlp 2 59 0 az_m_X2_bestWorth 4 := ⟨_, _, az_mp_X2_bestWorth, Or.inl ⟨rfl, rfl, rfl, az_int 767 (by decide +kernel) rfl⟩⟩
set_option maxRecDepth 100000 in
theorem az_ml_2_63 : az_mlp 2 63 3 az_m_X7_at 2 := ⟨_, _, az_mp_X7_at, Or.inr (Or.inr (Or.inr ⟨rfl, rfl, rfl, ⟨"GoodHalfEmpty", az_inn 692 (by decide +kernel) rfl⟩⟩))⟩
set_option maxRecDepth 100000 in
theorem az_ml_2_67 : az_mlp 2 67 1 az_m_X0_keepFirst 2 := ⟨_, _, az_mp_X0_keepFirst, Or.inr (Or.inl ⟨rfl, rfl, rfl, ⟨"GoodHalfEmpty", az_inn 727 (by decide +kernel) rfl⟩⟩)⟩
set_option maxRecDepth 100000 in
theorem az_ml_2_70 : az_mlp 2 70 0 az_m_X2_isBoxBeforeFirst 1 := ⟨_, _, az_mp_X2_isBoxBeforeFirst, Or.inl ⟨rfl, rfl, rfl, az_int 740 (by decide +kernel) rfl⟩⟩
set_option maxRecDepth 100000 in
theorem az_ml_2_76 : az_mlp 2 76 3 az_m_X7_copyRow 2 := ⟨_, _, az_mp_X7_copyRow, Or.inr (Or.inr (Or.inr ⟨rfl, rfl, rfl, ⟨"GoodHalfEmpty", az_inn 744 (by decide +kernel) rfl⟩⟩))⟩
set_option maxRecDepth 100000 in
theorem az_ml_2_83 : az_mlp 2 83 1 az_m_X0_begin 3 := ⟨_, _, az_mp_X0_begin, Or.inr (Or.inl ⟨rfl, rfl, rfl, ⟨"GoodHalfEmpty", az_inn 688 (by decide +kernel) rfl⟩⟩)⟩
set_option maxRecDepth 100000 in
theorem az_ml_2_87 : az_mlp 2 87 0 az_m_X2_beginBand 3 := ⟨_, _, az_mp_X2_beginBand, Or.inl ⟨rfl, rfl, rfl, az_int 684 (by decide +kernel) rfl⟩⟩
set_option maxRecDepth 100000 in
theorem az_ml_2_105 : az_mlp 2 105 1 az_m_X0_add 6 := ⟨_, _, az_mp_X0_add, Or.inr (Or.inl ⟨rfl, rfl, rfl, ⟨"GoodHalfEmpty", az_inn 693 (by decide +kernel) rfl⟩⟩)⟩
set_option maxRecDepth 100000 in
theorem az_ml_2_ok : ∀ q ∈ az_ml_2, az_mlp 2 q.1 q.2.1 q.2.2.1 q.2.2.2 := List.forall_mem_cons.mpr ⟨az_ml_2_30, List.forall_mem_cons.mpr ⟨az_ml_2_34, List.forall_mem_cons.mpr ⟨az_ml_2_38, List.forall_mem_cons.mpr ⟨az_ml_2_43, List.forall_mem_cons.mpr ⟨az_ml_2_47, List.forall_mem_cons.mpr ⟨az_ml_2_56, List.forall_mem_cons.mpr ⟨az_ml_2_59, List.forall_mem_cons.mpr ⟨az_ml_2_63, List.forall_mem_cons.mpr ⟨az_ml_2_67, List.forall_mem_cons.mpr ⟨az_ml_2_70, List.forall_mem_cons.mpr ⟨az_ml_2_76, List.forall_mem_cons.mpr ⟨az_ml_2_83, List.forall_mem_cons.mpr ⟨az_ml_2_87, List.forall_mem_cons.mpr ⟨az_ml_2_105, fun _ h => absurd h List.not_mem_nil⟩⟩⟩⟩⟩⟩⟩⟩⟩⟩⟩⟩⟩⟩
set_option maxRecDepth 100000 in
theorem az_ml_3_25 : az_mlp 3 25 3 az_m_X7_copyRow 2 := ⟨_, _, az_mp_X7_copyRow, Or.inr (Or.inr (Or.inr ⟨rfl, rfl, rfl, ⟨"GoodHalfEmpty", az_inn 304 (by decide +kernel) rfl⟩⟩))⟩
set_option maxRecDepth 100000 in
theorem az_ml_3_29 : az_mlp 3 29 3 az_m_X7_put 3 := ⟨_, _, az_mp_X7_put, Or.inr (Or.inr (Or.inr ⟨rfl, rfl, rfl, ⟨"GoodHalfEmpty", az_inn 489 (by decide +kernel) rfl⟩⟩))⟩
set_option maxRecDepth 100000 in
theorem az_ml_3_33 : az_mlp 3 33 3 az_m_X7_at 2 := ⟨_, _, az_mp_X7_at, Or.inr (Or.inr (Or.inr ⟨rfl, rfl, rfl, ⟨"GoodHalfEmpty", az_inn 582 (by decide +kernel) rfl⟩⟩))⟩
set_option maxRecDepth 100000 in
theorem az_ml_3_ok : ∀ q ∈ az_ml_3, az_mlp 3 q.1 q.2.1 q.2.2.1 q.2.2.2 := List.forall_mem_cons.mpr ⟨az_ml_3_25, List.forall_mem_cons.mpr ⟨az_ml_3_29, List.forall_mem_cons.mpr ⟨az_ml_3_33, fun _ h => absurd h List.not_mem_nil⟩⟩⟩
set_option maxRecDepth 100000 in
theorem az_ml_4_34 : az_mlp 4 34 3 az_m_X7_copyRow 2 := ⟨_, _, az_mp_X7_copyRow, Or.inr (Or.inr (Or.inr ⟨rfl, rfl, rfl, ⟨"GoodHalfEmpty", az_inn 297 (by decide +kernel) rfl⟩⟩))⟩
set_option maxRecDepth 100000 in
theorem az_ml_4_38 : az_mlp 4 38 3 az_m_X7_put 3 := ⟨_, _, az_mp_X7_put, Or.inr (Or.inr (Or.inr ⟨rfl, rfl, rfl, ⟨"GoodHalfEmpty", az_inn 506 (by decide +kernel) rfl⟩⟩))⟩
set_option maxRecDepth 100000 in
theorem az_ml_4_42 : az_mlp 4 42 3 az_m_X7_at 2 := ⟨_, _, az_mp_X7_at, Or.inr (Or.inr (Or.inr ⟨rfl, rfl, rfl, ⟨"GoodHalfEmpty", az_inn 537 (by decide +kernel) rfl⟩⟩))⟩
set_option maxRecDepth 100000 in
theorem az_ml_4_ok : ∀ q ∈ az_ml_4, az_mlp 4 q.1 q.2.1 q.2.2.1 q.2.2.2 := List.forall_mem_cons.mpr ⟨az_ml_4_34, List.forall_mem_cons.mpr ⟨az_ml_4_38, List.forall_mem_cons.mpr ⟨az_ml_4_42, fun _ h => absurd h List.not_mem_nil⟩⟩⟩
set_option maxRecDepth 100000 in
theorem az_ml_5_19 : az_mlp 5 19 3 az_m_X7_put 3 := ⟨_, _, az_mp_X7_put, Or.inr (Or.inr (Or.inr ⟨rfl, rfl, rfl, ⟨"GoodHalfEmpty", az_inn 281 (by decide +kernel) rfl⟩⟩))⟩
set_option maxRecDepth 100000 in
theorem az_ml_5_29 : az_mlp 5 29 0 az_m_X5_badPlace 1 := ⟨_, _, az_mp_X5_badPlace, Or.inl ⟨rfl, rfl, rfl, az_int 314 (by decide +kernel) rfl⟩⟩
set_option maxRecDepth 100000 in
theorem az_ml_5_33 : az_mlp 5 33 0 az_m_X5_tellStatement 3 := ⟨_, _, az_mp_X5_tellStatement, Or.inl ⟨rfl, rfl, rfl, az_int 458 (by decide +kernel) rfl⟩⟩
set_option maxRecDepth 100000 in
theorem az_ml_5_37 : az_mlp 5 37 0 az_m_X5_formAt 2 := ⟨_, _, az_mp_X5_formAt, Or.inl ⟨rfl, rfl, rfl, az_int 318 (by decide +kernel) rfl⟩⟩
set_option maxRecDepth 100000 in
theorem az_ml_5_41 : az_mlp 5 41 0 az_m_J0_length_8abf5 1 := ⟨_, _, az_mp_J0_length_8abf5, Or.inl ⟨rfl, rfl, rfl, az_int 343 (by decide +kernel) rfl⟩⟩
set_option maxRecDepth 100000 in
theorem az_ml_5_46 : az_mlp 5 46 0 az_m_J0_isEmpty_aae02 1 := ⟨_, _, az_mp_J0_isEmpty_aae02, Or.inl ⟨rfl, rfl, rfl, az_int 339 (by decide +kernel) rfl⟩⟩
set_option maxRecDepth 100000 in
theorem az_ml_5_50 : az_mlp 5 50 0 az_m_J0_charAt_5068e 2 := ⟨_, _, az_mp_J0_charAt_5068e, Or.inl ⟨rfl, rfl, rfl, az_int 353 (by decide +kernel) rfl⟩⟩
set_option maxRecDepth 100000 in
theorem az_ml_5_54 : az_mlp 5 54 0 az_m_X5_fits 3 := ⟨_, _, az_mp_X5_fits, Or.inl ⟨rfl, rfl, rfl, az_int 391 (by decide +kernel) rfl⟩⟩
set_option maxRecDepth 100000 in
theorem az_ml_5_58 : az_mlp 5 58 0 az_m_X5_letterAt 2 := ⟨_, _, az_mp_X5_letterAt, Or.inl ⟨rfl, rfl, rfl, az_int 322 (by decide +kernel) rfl⟩⟩
set_option maxRecDepth 100000 in
theorem az_ml_5_62 : az_mlp 5 62 0 az_m_X5_numberForm 2 := ⟨_, _, az_mp_X5_numberForm, Or.inl ⟨rfl, rfl, rfl, az_int 326 (by decide +kernel) rfl⟩⟩
set_option maxRecDepth 100000 in
theorem az_ml_5_71 : az_mlp 5 71 0 az_m_X5_isDigit 2 := ⟨_, _, az_mp_X5_isDigit, Or.inl ⟨rfl, rfl, rfl, az_int 330 (by decide +kernel) rfl⟩⟩
set_option maxRecDepth 100000 in
theorem az_ml_5_81 : az_mlp 5 81 0 az_m_X5_kindAt 3 := ⟨_, _, az_mp_X5_kindAt, Or.inl ⟨rfl, rfl, rfl, az_int 396 (by decide +kernel) rfl⟩⟩
set_option maxRecDepth 100000 in
theorem az_ml_5_87 : az_mlp 5 87 0 az_m_X5_numberAt 2 := ⟨_, _, az_mp_X5_numberAt, Or.inl ⟨rfl, rfl, rfl, az_int 462 (by decide +kernel) rfl⟩⟩
set_option maxRecDepth 100000 in
theorem az_ml_5_90 : az_mlp 5 90 1 az_m_X6_setChairs 2 := ⟨_, _, az_mp_X6_setChairs, Or.inr (Or.inl ⟨rfl, rfl, rfl, ⟨"GoodHalfEmpty", az_inn 470 (by decide +kernel) rfl⟩⟩)⟩
set_option maxRecDepth 100000 in
theorem az_ml_5_95 : az_mlp 5 95 1 az_m_X6_addWeek 2 := ⟨_, _, az_mp_X6_addWeek, Or.inr (Or.inl ⟨rfl, rfl, rfl, ⟨"GoodHalfEmpty", az_inn 474 (by decide +kernel) rfl⟩⟩)⟩
set_option maxRecDepth 100000 in
theorem az_ml_5_102 : az_mlp 5 102 0 az_m_X5_digitAt 2 := ⟨_, _, az_mp_X5_digitAt, Or.inl ⟨rfl, rfl, rfl, az_int 466 (by decide +kernel) rfl⟩⟩
set_option maxRecDepth 100000 in
theorem az_ml_5_105 : az_mlp 5 105 1 az_m_X3_add 3 := ⟨_, _, az_mp_X3_add, Or.inr (Or.inl ⟨rfl, rfl, rfl, ⟨"GoodHalfEmpty", az_inn 485 (by decide +kernel) rfl⟩⟩)⟩
set_option maxRecDepth 100000 in
theorem az_ml_5_111 : az_mlp 5 111 0 az_m_X5_tellSort 3 := ⟨_, _, az_mp_X5_tellSort, Or.inl ⟨rfl, rfl, rfl, az_int 490 (by decide +kernel) rfl⟩⟩
set_option maxRecDepth 100000 in
theorem az_ml_5_114 : az_mlp 5 114 1 az_m_X6_mayFollow 3 := ⟨_, _, az_mp_X6_mayFollow, Or.inr (Or.inl ⟨rfl, rfl, rfl, ⟨"GoodHalfEmpty", az_inn 494 (by decide +kernel) rfl⟩⟩)⟩
set_option maxRecDepth 100000 in
theorem az_ml_5_121 : az_mlp 5 121 1 az_m_X4_add 7 := ⟨_, _, az_mp_X4_add, Or.inr (Or.inl ⟨rfl, rfl, rfl, ⟨"GoodHalfEmpty", az_inn 502 (by decide +kernel) rfl⟩⟩)⟩
set_option maxRecDepth 100000 in
theorem az_ml_5_126 : az_mlp 5 126 0 az_m_J0_indexOf_0f7a4 2 := ⟨_, _, az_mp_J0_indexOf_0f7a4, Or.inl ⟨rfl, rfl, rfl, az_int 400 (by decide +kernel) rfl⟩⟩
set_option maxRecDepth 100000 in
theorem az_ml_5_ok : ∀ q ∈ az_ml_5, az_mlp 5 q.1 q.2.1 q.2.2.1 q.2.2.2 := List.forall_mem_cons.mpr ⟨az_ml_5_19, List.forall_mem_cons.mpr ⟨az_ml_5_29, List.forall_mem_cons.mpr ⟨az_ml_5_33, List.forall_mem_cons.mpr ⟨az_ml_5_37, List.forall_mem_cons.mpr ⟨az_ml_5_41, List.forall_mem_cons.mpr ⟨az_ml_5_46, List.forall_mem_cons.mpr ⟨az_ml_5_50, List.forall_mem_cons.mpr ⟨az_ml_5_54, List.forall_mem_cons.mpr ⟨az_ml_5_58, List.forall_mem_cons.mpr ⟨az_ml_5_62, List.forall_mem_cons.mpr ⟨az_ml_5_71, List.forall_mem_cons.mpr ⟨az_ml_5_81, List.forall_mem_cons.mpr ⟨az_ml_5_87, List.forall_mem_cons.mpr ⟨az_ml_5_90, List.forall_mem_cons.mpr ⟨az_ml_5_95, List.forall_mem_cons.mpr ⟨az_ml_5_102, List.forall_mem_cons.mpr ⟨az_ml_5_105, List.forall_mem_cons.mpr ⟨az_ml_5_111, List.forall_mem_cons.mpr ⟨az_ml_5_114, List.forall_mem_cons.mpr ⟨az_ml_5_121, List.forall_mem_cons.mpr ⟨az_ml_5_126, fun _ h => absurd h List.not_mem_nil⟩⟩⟩⟩⟩⟩⟩⟩⟩⟩⟩⟩⟩⟩⟩⟩⟩⟩⟩⟩⟩
set_option maxRecDepth 100000 in
theorem az_ml_6_52 : az_mlp 6 52 1 az_m_X4_copyFrom 2 := ⟨_, _, az_mp_X4_copyFrom, Or.inr (Or.inl ⟨rfl, rfl, rfl, ⟨"GoodHalfEmpty", az_inn 293 (by decide +kernel) rfl⟩⟩)⟩
set_option maxRecDepth 100000 in
theorem az_ml_6_56 : az_mlp 6 56 1 az_m_X3_copyFrom 2 := ⟨_, _, az_mp_X3_copyFrom, Or.inr (Or.inl ⟨rfl, rfl, rfl, ⟨"GoodHalfEmpty", az_inn 300 (by decide +kernel) rfl⟩⟩)⟩
set_option maxRecDepth 100000 in
theorem az_ml_6_59 : az_mlp 6 59 1 az_m_X1_copyFrom 2 := ⟨_, _, az_mp_X1_copyFrom, Or.inr (Or.inl ⟨rfl, rfl, rfl, ⟨"GoodHalfEmpty", az_inn 305 (by decide +kernel) rfl⟩⟩)⟩
set_option maxRecDepth 100000 in
theorem az_ml_6_62 : az_mlp 6 62 1 az_m_X1_add 2 := ⟨_, _, az_mp_X1_add, Or.inr (Or.inl ⟨rfl, rfl, rfl, ⟨"GoodHalfEmpty", az_inn 478 (by decide +kernel) rfl⟩⟩)⟩
set_option maxRecDepth 100000 in
theorem az_ml_6_66 : az_mlp 6 66 1 az_m_X3_has 2 := ⟨_, _, az_mp_X3_has, Or.inr (Or.inl ⟨rfl, rfl, rfl, ⟨"GoodHalfEmpty", az_inn 498 (by decide +kernel) rfl⟩⟩)⟩
set_option maxRecDepth 100000 in
theorem az_ml_6_76 : az_mlp 6 76 0 az_m_X6_presentAgo 2 := ⟨_, _, az_mp_X6_presentAgo, Or.inl ⟨rfl, rfl, rfl, az_int 529 (by decide +kernel) rfl⟩⟩
set_option maxRecDepth 100000 in
theorem az_ml_6_80 : az_mlp 6 80 3 az_m_X7_quotient 2 := ⟨_, _, az_mp_X7_quotient, Or.inr (Or.inr (Or.inr ⟨rfl, rfl, rfl, ⟨"GoodHalfEmpty", az_inn 543 (by decide +kernel) rfl⟩⟩))⟩
set_option maxRecDepth 100000 in
theorem az_ml_6_84 : az_mlp 6 84 1 az_m_X4_people 1 := ⟨_, _, az_mp_X4_people, Or.inr (Or.inl ⟨rfl, rfl, rfl, ⟨"GoodHalfEmpty", az_inn 533 (by decide +kernel) rfl⟩⟩)⟩
set_option maxRecDepth 100000 in
theorem az_ml_6_93 : az_mlp 6 93 0 az_m_X6_meanPresent 2 := ⟨_, _, az_mp_X6_meanPresent, Or.inl ⟨rfl, rfl, rfl, az_int 539 (by decide +kernel) rfl⟩⟩
set_option maxRecDepth 100000 in
theorem az_ml_6_96 : az_mlp 6 96 0 az_m_X6_askRules 1 := ⟨_, _, az_mp_X6_askRules, Or.inl ⟨rfl, rfl, rfl, az_int 563 (by decide +kernel) rfl⟩⟩
set_option maxRecDepth 100000 in
theorem az_ml_6_99 : az_mlp 6 99 0 az_m_X6_askSorts 1 := ⟨_, _, az_mp_X6_askSorts, Or.inl ⟨rfl, rfl, rfl, az_int 570 (by decide +kernel) rfl⟩⟩
set_option maxRecDepth 100000 in
theorem az_ml_6_106 : az_mlp 6 106 3 az_m_X7_at 2 := ⟨_, _, az_mp_X7_at, Or.inr (Or.inr (Or.inr ⟨rfl, rfl, rfl, ⟨"GoodHalfEmpty", az_inn 567 (by decide +kernel) rfl⟩⟩))⟩
set_option maxRecDepth 100000 in
theorem az_ml_6_113 : az_mlp 6 113 0 az_m_X6_foretells 3 := ⟨_, _, az_mp_X6_foretells, Or.inl ⟨rfl, rfl, rfl, az_int 568 (by decide +kernel) rfl⟩⟩
set_option maxRecDepth 100000 in
theorem az_ml_6_116 : az_mlp 6 116 3 az_m_X7_put 3 := ⟨_, _, az_mp_X7_put, Or.inr (Or.inr (Or.inr ⟨rfl, rfl, rfl, ⟨"GoodHalfEmpty", az_inn 569 (by decide +kernel) rfl⟩⟩))⟩
set_option maxRecDepth 100000 in
theorem az_ml_6_122 : az_mlp 6 122 0 az_m_X6_wantsToGo 2 := ⟨_, _, az_mp_X6_wantsToGo, Or.inl ⟨rfl, rfl, rfl, az_int 574 (by decide +kernel) rfl⟩⟩
set_option maxRecDepth 100000 in
theorem az_ml_6_125 : az_mlp 6 125 0 az_m_X6_settle 3 := ⟨_, _, az_mp_X6_settle, Or.inl ⟨rfl, rfl, rfl, az_int 586 (by decide +kernel) rfl⟩⟩
set_option maxRecDepth 100000 in
theorem az_ml_6_135 : az_mlp 6 135 1 az_m_X3_mostRight 2 := ⟨_, _, az_mp_X3_mostRight, Or.inr (Or.inl ⟨rfl, rfl, rfl, ⟨"GoodHalfEmpty", az_inn 578 (by decide +kernel) rfl⟩⟩)⟩
set_option maxRecDepth 100000 in
theorem az_ml_6_138 : az_mlp 6 138 3 az_m_X7_remainder 2 := ⟨_, _, az_mp_X7_remainder, Or.inr (Or.inr (Or.inr ⟨rfl, rfl, rfl, ⟨"GoodHalfEmpty", az_inn 583 (by decide +kernel) rfl⟩⟩))⟩
set_option maxRecDepth 100000 in
theorem az_ml_6_141 : az_mlp 6 141 0 az_m_X6_isRight 2 := ⟨_, _, az_mp_X6_isRight, Or.inl ⟨rfl, rfl, rfl, az_int 590 (by decide +kernel) rfl⟩⟩
set_option maxRecDepth 100000 in
theorem az_ml_6_156 : az_mlp 6 156 0 az_m_X6_worthToOne 2 := ⟨_, _, az_mp_X6_worthToOne, Or.inl ⟨rfl, rfl, rfl, az_int 619 (by decide +kernel) rfl⟩⟩
set_option maxRecDepth 100000 in
theorem az_ml_6_ok : ∀ q ∈ az_ml_6, az_mlp 6 q.1 q.2.1 q.2.2.1 q.2.2.2 := List.forall_mem_cons.mpr ⟨az_ml_6_52, List.forall_mem_cons.mpr ⟨az_ml_6_56, List.forall_mem_cons.mpr ⟨az_ml_6_59, List.forall_mem_cons.mpr ⟨az_ml_6_62, List.forall_mem_cons.mpr ⟨az_ml_6_66, List.forall_mem_cons.mpr ⟨az_ml_6_76, List.forall_mem_cons.mpr ⟨az_ml_6_80, List.forall_mem_cons.mpr ⟨az_ml_6_84, List.forall_mem_cons.mpr ⟨az_ml_6_93, List.forall_mem_cons.mpr ⟨az_ml_6_96, List.forall_mem_cons.mpr ⟨az_ml_6_99, List.forall_mem_cons.mpr ⟨az_ml_6_106, List.forall_mem_cons.mpr ⟨az_ml_6_113, List.forall_mem_cons.mpr ⟨az_ml_6_116, List.forall_mem_cons.mpr ⟨az_ml_6_122, List.forall_mem_cons.mpr ⟨az_ml_6_125, List.forall_mem_cons.mpr ⟨az_ml_6_135, List.forall_mem_cons.mpr ⟨az_ml_6_138, List.forall_mem_cons.mpr ⟨az_ml_6_141, List.forall_mem_cons.mpr ⟨az_ml_6_156, fun _ h => absurd h List.not_mem_nil⟩⟩⟩⟩⟩⟩⟩⟩⟩⟩⟩⟩⟩⟩⟩⟩⟩⟩⟩⟩
set_option maxRecDepth 100000 in
theorem az_ml_7_57 : az_mlp 7 57 2 az_m_X7_outside 3 := ⟨_, _, az_mp_X7_outside, Or.inr (Or.inr (Or.inl ⟨rfl, rfl, rfl, az_int 264 (by decide +kernel) rfl⟩))⟩
set_option maxRecDepth 100000 in
theorem az_ml_7_64 : az_mlp 7 64 0 az_m_X7_refuse 2 := ⟨_, _, az_mp_X7_refuse, Or.inl ⟨rfl, rfl, rfl, az_int 267 (by decide +kernel) rfl⟩⟩
set_option maxRecDepth 100000 in
theorem az_ml_7_68 : az_mlp 7 68 1 az_m_X5_add 2 := ⟨_, _, az_mp_X5_add, Or.inr (Or.inl ⟨rfl, rfl, rfl, ⟨"GoodHalfEmpty", az_inn 277 (by decide +kernel) rfl⟩⟩)⟩
set_option maxRecDepth 100000 in
theorem az_ml_7_71 : az_mlp 7 71 1 az_m_X6_copyFrom 2 := ⟨_, _, az_mp_X6_copyFrom, Or.inr (Or.inl ⟨rfl, rfl, rfl, ⟨"GoodHalfEmpty", az_inn 289 (by decide +kernel) rfl⟩⟩)⟩
set_option maxRecDepth 100000 in
theorem az_ml_7_75 : az_mlp 7 75 1 az_m_X5_tellTo 2 := ⟨_, _, az_mp_X5_tellTo, Or.inr (Or.inl ⟨rfl, rfl, rfl, ⟨"GoodHalfEmpty", az_inn 310 (by decide +kernel) rfl⟩⟩)⟩
set_option maxRecDepth 100000 in
theorem az_ml_7_79 : az_mlp 7 79 1 az_m_X5_clear 1 := ⟨_, _, az_mp_X5_clear, Or.inr (Or.inl ⟨rfl, rfl, rfl, ⟨"GoodHalfEmpty", az_inn 507 (by decide +kernel) rfl⟩⟩)⟩
set_option maxRecDepth 100000 in
theorem az_ml_7_86 : az_mlp 7 86 1 az_m_X4_has 2 := ⟨_, _, az_mp_X4_has, Or.inr (Or.inl ⟨rfl, rfl, rfl, ⟨"GoodHalfEmpty", az_inn 516 (by decide +kernel) rfl⟩⟩)⟩
set_option maxRecDepth 100000 in
theorem az_ml_7_95 : az_mlp 7 95 2 az_m_X7_at 2 := ⟨_, _, az_mp_X7_at, Or.inr (Or.inr (Or.inl ⟨rfl, rfl, rfl, az_int 271 (by decide +kernel) rfl⟩))⟩
set_option maxRecDepth 100000 in
theorem az_ml_7_118 : az_mlp 7 118 1 az_m_X3_has 2 := ⟨_, _, az_mp_X3_has, Or.inr (Or.inl ⟨rfl, rfl, rfl, ⟨"GoodHalfEmpty", az_inn 524 (by decide +kernel) rfl⟩⟩)⟩
set_option maxRecDepth 100000 in
theorem az_ml_7_128 : az_mlp 7 128 1 az_m_X6_foretells 3 := ⟨_, _, az_mp_X6_foretells, Or.inr (Or.inl ⟨rfl, rfl, rfl, ⟨"GoodHalfEmpty", az_inn 525 (by decide +kernel) rfl⟩⟩)⟩
set_option maxRecDepth 100000 in
theorem az_ml_7_132 : az_mlp 7 132 1 az_m_X6_presentAgo 2 := ⟨_, _, az_mp_X6_presentAgo, Or.inr (Or.inl ⟨rfl, rfl, rfl, ⟨"GoodHalfEmpty", az_inn 550 (by decide +kernel) rfl⟩⟩)⟩
set_option maxRecDepth 100000 in
theorem az_ml_7_138 : az_mlp 7 138 1 az_m_X6_goBy 1 := ⟨_, _, az_mp_X6_goBy, Or.inr (Or.inl ⟨rfl, rfl, rfl, ⟨"GoodHalfEmpty", az_inn 559 (by decide +kernel) rfl⟩⟩)⟩
set_option maxRecDepth 100000 in
theorem az_ml_7_142 : az_mlp 7 142 1 az_m_X6_decide 1 := ⟨_, _, az_mp_X6_decide, Or.inr (Or.inl ⟨rfl, rfl, rfl, ⟨"GoodHalfEmpty", az_inn 598 (by decide +kernel) rfl⟩⟩)⟩
set_option maxRecDepth 100000 in
theorem az_ml_7_151 : az_mlp 7 151 0 az_m_X7_refuseWorth 2 := ⟨_, _, az_mp_X7_refuseWorth, Or.inl ⟨rfl, rfl, rfl, az_int 610 (by decide +kernel) rfl⟩⟩
set_option maxRecDepth 100000 in
theorem az_ml_7_154 : az_mlp 7 154 1 az_m_X6_worthToAll 1 := ⟨_, _, az_mp_X6_worthToAll, Or.inr (Or.inl ⟨rfl, rfl, rfl, ⟨"GoodHalfEmpty", az_inn 615 (by decide +kernel) rfl⟩⟩)⟩
set_option maxRecDepth 100000 in
theorem az_ml_7_157 : az_mlp 7 157 1 az_m_X6_worthToOne 2 := ⟨_, _, az_mp_X6_worthToOne, Or.inr (Or.inl ⟨rfl, rfl, rfl, ⟨"GoodHalfEmpty", az_inn 623 (by decide +kernel) rfl⟩⟩)⟩
set_option maxRecDepth 100000 in
theorem az_ml_7_160 : az_mlp 7 160 0 az_m_X7_lookAhead 3 := ⟨_, _, az_mp_X7_lookAhead, Or.inl ⟨rfl, rfl, rfl, az_int 628 (by decide +kernel) rfl⟩⟩
set_option maxRecDepth 100000 in
theorem az_ml_7_164 : az_mlp 7 164 2 az_m_X7_quotient 2 := ⟨_, _, az_mp_X7_quotient, Or.inr (Or.inr (Or.inl ⟨rfl, rfl, rfl, az_int 641 (by decide +kernel) rfl⟩))⟩
set_option maxRecDepth 100000 in
theorem az_ml_7_167 : az_mlp 7 167 0 az_m_X7_swingOf 2 := ⟨_, _, az_mp_X7_swingOf, Or.inl ⟨rfl, rfl, rfl, az_int 646 (by decide +kernel) rfl⟩⟩
set_option maxRecDepth 100000 in
theorem az_ml_7_173 : az_mlp 7 173 0 az_m_X7_comesAgainAfter 2 := ⟨_, _, az_mp_X7_comesAgainAfter, Or.inl ⟨rfl, rfl, rfl, az_int 660 (by decide +kernel) rfl⟩⟩
set_option maxRecDepth 100000 in
theorem az_ml_7_176 : az_mlp 7 176 0 az_m_X7_gainsInMind 3 := ⟨_, _, az_mp_X7_gainsInMind, Or.inl ⟨rfl, rfl, rfl, az_int 668 (by decide +kernel) rfl⟩⟩
set_option maxRecDepth 100000 in
theorem az_ml_7_179 : az_mlp 7 179 1 az_m_X2_restingPlans 4 := ⟨_, _, az_mp_X2_restingPlans, Or.inr (Or.inl ⟨rfl, rfl, rfl, ⟨"GoodHalfEmpty", az_inn 676 (by decide +kernel) rfl⟩⟩)⟩
set_option maxRecDepth 100000 in
theorem az_ml_7_183 : az_mlp 7 183 1 az_m_X2_findFirstResting 4 := ⟨_, _, az_mp_X2_findFirstResting, Or.inr (Or.inl ⟨rfl, rfl, rfl, ⟨"GoodHalfEmpty", az_inn 717 (by decide +kernel) rfl⟩⟩)⟩
set_option maxRecDepth 100000 in
theorem az_ml_7_187 : az_mlp 7 187 1 az_m_X2_presentOfFirst 1 := ⟨_, _, az_mp_X2_presentOfFirst, Or.inr (Or.inl ⟨rfl, rfl, rfl, ⟨"GoodHalfEmpty", az_inn 745 (by decide +kernel) rfl⟩⟩)⟩
set_option maxRecDepth 100000 in
theorem az_ml_7_193 : az_mlp 7 193 1 az_m_X2_bestWorth 4 := ⟨_, _, az_mp_X2_bestWorth, Or.inr (Or.inl ⟨rfl, rfl, rfl, ⟨"GoodHalfEmpty", az_inn 753 (by decide +kernel) rfl⟩⟩)⟩
set_option maxRecDepth 100000 in
theorem az_ml_7_196 : az_mlp 7 196 1 az_m_X2_findFirstBest 4 := ⟨_, _, az_mp_X2_findFirstBest, Or.inr (Or.inl ⟨rfl, rfl, rfl, ⟨"GoodHalfEmpty", az_inn 763 (by decide +kernel) rfl⟩⟩)⟩
set_option maxRecDepth 100000 in
theorem az_ml_7_200 : az_mlp 7 200 1 az_m_X2_bestRestingWorth 4 := ⟨_, _, az_mp_X2_bestRestingWorth, Or.inr (Or.inl ⟨rfl, rfl, rfl, ⟨"GoodHalfEmpty", az_inn 772 (by decide +kernel) rfl⟩⟩)⟩
set_option maxRecDepth 100000 in
theorem az_ml_7_205 : az_mlp 7 205 1 az_m_X4_add 7 := ⟨_, _, az_mp_X4_add, Or.inr (Or.inl ⟨rfl, rfl, rfl, ⟨"GoodHalfEmpty", az_inn 789 (by decide +kernel) rfl⟩⟩)⟩
set_option maxRecDepth 100000 in
theorem az_ml_7_208 : az_mlp 7 208 0 az_m_X7_tallyRight 2 := ⟨_, _, az_mp_X7_tallyRight, Or.inl ⟨rfl, rfl, rfl, az_int 794 (by decide +kernel) rfl⟩⟩
set_option maxRecDepth 100000 in
theorem az_ml_7_212 : az_mlp 7 212 1 az_m_X6_drawMemory 2 := ⟨_, _, az_mp_X6_drawMemory, Or.inr (Or.inl ⟨rfl, rfl, rfl, ⟨"GoodHalfEmpty", az_inn 807 (by decide +kernel) rfl⟩⟩)⟩
set_option maxRecDepth 100000 in
theorem az_ml_7_215 : az_mlp 7 215 2 az_m_X7_put 3 := ⟨_, _, az_mp_X7_put, Or.inr (Or.inr (Or.inl ⟨rfl, rfl, rfl, az_int 274 (by decide +kernel) rfl⟩))⟩
set_option maxRecDepth 100000 in
theorem az_ml_7_223 : az_mlp 7 223 1 az_m_X4_people 1 := ⟨_, _, az_mp_X4_people, Or.inr (Or.inl ⟨rfl, rfl, rfl, ⟨"GoodHalfEmpty", az_inn 834 (by decide +kernel) rfl⟩⟩)⟩
set_option maxRecDepth 100000 in
theorem az_ml_7_234 : az_mlp 7 234 1 az_m_X3_lengthen 2 := ⟨_, _, az_mp_X3_lengthen, Or.inr (Or.inl ⟨rfl, rfl, rfl, ⟨"GoodHalfEmpty", az_inn 632 (by decide +kernel) rfl⟩⟩)⟩
set_option maxRecDepth 100000 in
theorem az_ml_7_245 : az_mlp 7 245 1 az_m_X6_isRight 2 := ⟨_, _, az_mp_X6_isRight, Or.inr (Or.inl ⟨rfl, rfl, rfl, ⟨"GoodHalfEmpty", az_inn 798 (by decide +kernel) rfl⟩⟩)⟩
set_option maxRecDepth 100000 in
theorem az_ml_7_ok : ∀ q ∈ az_ml_7, az_mlp 7 q.1 q.2.1 q.2.2.1 q.2.2.2 := List.forall_mem_cons.mpr ⟨az_ml_7_57, List.forall_mem_cons.mpr ⟨az_ml_7_64, List.forall_mem_cons.mpr ⟨az_ml_7_68, List.forall_mem_cons.mpr ⟨az_ml_7_71, List.forall_mem_cons.mpr ⟨az_ml_7_75, List.forall_mem_cons.mpr ⟨az_ml_7_79, List.forall_mem_cons.mpr ⟨az_ml_7_86, List.forall_mem_cons.mpr ⟨az_ml_7_95, List.forall_mem_cons.mpr ⟨az_ml_7_118, List.forall_mem_cons.mpr ⟨az_ml_7_128, List.forall_mem_cons.mpr ⟨az_ml_7_132, List.forall_mem_cons.mpr ⟨az_ml_7_138, List.forall_mem_cons.mpr ⟨az_ml_7_142, List.forall_mem_cons.mpr ⟨az_ml_7_151, List.forall_mem_cons.mpr ⟨az_ml_7_154, List.forall_mem_cons.mpr ⟨az_ml_7_157, List.forall_mem_cons.mpr ⟨az_ml_7_160, List.forall_mem_cons.mpr ⟨az_ml_7_164, List.forall_mem_cons.mpr ⟨az_ml_7_167, List.forall_mem_cons.mpr ⟨az_ml_7_173, List.forall_mem_cons.mpr ⟨az_ml_7_176, List.forall_mem_cons.mpr ⟨az_ml_7_179, List.forall_mem_cons.mpr ⟨az_ml_7_183, List.forall_mem_cons.mpr ⟨az_ml_7_187, List.forall_mem_cons.mpr ⟨az_ml_7_193, List.forall_mem_cons.mpr ⟨az_ml_7_196, List.forall_mem_cons.mpr ⟨az_ml_7_200, List.forall_mem_cons.mpr ⟨az_ml_7_205, List.forall_mem_cons.mpr ⟨az_ml_7_208, List.forall_mem_cons.mpr ⟨az_ml_7_212, List.forall_mem_cons.mpr ⟨az_ml_7_215, List.forall_mem_cons.mpr ⟨az_ml_7_223, List.forall_mem_cons.mpr ⟨az_ml_7_234, List.forall_mem_cons.mpr ⟨az_ml_7_245, fun _ h => absurd h List.not_mem_nil⟩⟩⟩⟩⟩⟩⟩⟩⟩⟩⟩⟩⟩⟩⟩⟩⟩⟩⟩⟩⟩⟩⟩⟩⟩⟩⟩⟩⟩⟩⟩⟩⟩⟩
set_option maxRecDepth 100000 in
theorem az_ml_8_17 : az_mlp 8 17 2 az_m_X8_move 2 := ⟨_, _, az_mp_X8_move, Or.inr (Or.inr (Or.inl ⟨rfl, rfl, rfl, az_int 839 (by decide +kernel) rfl⟩))⟩
set_option maxRecDepth 100000 in
theorem az_ml_8_21 : az_mlp 8 21 0 az_m_X8_no 2 := ⟨_, _, az_mp_X8_no, Or.inl ⟨rfl, rfl, rfl, az_int 846 (by decide +kernel) rfl⟩⟩
set_option maxRecDepth 100000 in
theorem az_ml_8_69 : az_mlp 8 69 0 az_m_X8_of 3 := ⟨_, _, az_mp_X8_of, Or.inl ⟨rfl, rfl, rfl, az_int 988 (by decide +kernel) rfl⟩⟩
set_option maxRecDepth 100000 in
theorem az_ml_8_83 : az_mlp 8 83 0 az_m_X8_oneOf 2 := ⟨_, _, az_mp_X8_oneOf, Or.inl ⟨rfl, rfl, rfl, az_int 956 (by decide +kernel) rfl⟩⟩
set_option maxRecDepth 100000 in
theorem az_ml_8_90 : az_mlp 8 90 0 az_m_X8_figures 2 := ⟨_, _, az_mp_X8_figures, Or.inl ⟨rfl, rfl, rfl, az_int 960 (by decide +kernel) rfl⟩⟩
set_option maxRecDepth 100000 in
theorem az_ml_8_93 : az_mlp 8 93 0 az_m_X8_expect 2 := ⟨_, _, az_mp_X8_expect, Or.inl ⟨rfl, rfl, rfl, az_int 964 (by decide +kernel) rfl⟩⟩
set_option maxRecDepth 100000 in
theorem az_ml_8_97 : az_mlp 8 97 0 az_m_X8_remember 2 := ⟨_, _, az_mp_X8_remember, Or.inl ⟨rfl, rfl, rfl, az_int 976 (by decide +kernel) rfl⟩⟩
set_option maxRecDepth 100000 in
theorem az_ml_8_101 : az_mlp 8 101 0 az_m_X8_statement 1 := ⟨_, _, az_mp_X8_statement, Or.inl ⟨rfl, rfl, rfl, az_int 952 (by decide +kernel) rfl⟩⟩
set_option maxRecDepth 100000 in
theorem az_ml_8_104 : az_mlp 8 104 0 az_m_X8_isAsItMustBe 3 := ⟨_, _, az_mp_X8_isAsItMustBe, Or.inl ⟨rfl, rfl, rfl, az_int 968 (by decide +kernel) rfl⟩⟩
set_option maxRecDepth 100000 in
theorem az_ml_8_108 : az_mlp 8 108 0 az_m_X8_come 1 := ⟨_, _, az_mp_X8_come, Or.inl ⟨rfl, rfl, rfl, az_int 972 (by decide +kernel) rfl⟩⟩
set_option maxRecDepth 100000 in
theorem az_ml_8_111 : az_mlp 8 111 0 az_m_X8_read 1 := ⟨_, _, az_mp_X8_read, Or.inl ⟨rfl, rfl, rfl, az_int 948 (by decide +kernel) rfl⟩⟩
set_option maxRecDepth 100000 in
theorem az_ml_8_115 : az_mlp 8 115 0 az_m_X8_ago 2 := ⟨_, _, az_mp_X8_ago, Or.inl ⟨rfl, rfl, rfl, az_int 1000 (by decide +kernel) rfl⟩⟩
set_option maxRecDepth 100000 in
theorem az_ml_8_118 : az_mlp 8 118 0 az_m_X8_people 1 := ⟨_, _, az_mp_X8_people, Or.inl ⟨rfl, rfl, rfl, az_int 1004 (by decide +kernel) rfl⟩⟩
set_option maxRecDepth 100000 in
theorem az_ml_8_126 : az_mlp 8 126 0 az_m_X8_foretold 3 := ⟨_, _, az_mp_X8_foretold, Or.inl ⟨rfl, rfl, rfl, az_int 996 (by decide +kernel) rfl⟩⟩
set_option maxRecDepth 100000 in
theorem az_ml_8_129 : az_mlp 8 129 0 az_m_X8_isRoom 2 := ⟨_, _, az_mp_X8_isRoom, Or.inl ⟨rfl, rfl, rfl, az_int 1029 (by decide +kernel) rfl⟩⟩
set_option maxRecDepth 100000 in
theorem az_ml_8_133 : az_mlp 8 133 0 az_m_X8_hat 2 := ⟨_, _, az_mp_X8_hat, Or.inl ⟨rfl, rfl, rfl, az_int 1033 (by decide +kernel) rfl⟩⟩
set_option maxRecDepth 100000 in
theorem az_ml_8_136 : az_mlp 8 136 0 az_m_X8_worthGone 3 := ⟨_, _, az_mp_X8_worthGone, Or.inl ⟨rfl, rfl, rfl, az_int 1054 (by decide +kernel) rfl⟩⟩
set_option maxRecDepth 100000 in
theorem az_ml_8_139 : az_mlp 8 139 0 az_m_X8_present 1 := ⟨_, _, az_mp_X8_present, Or.inl ⟨rfl, rfl, rfl, az_int 1025 (by decide +kernel) rfl⟩⟩
set_option maxRecDepth 100000 in
theorem az_ml_8_142 : az_mlp 8 142 0 az_m_X8_isNoSort 2 := ⟨_, _, az_mp_X8_isNoSort, Or.inl ⟨rfl, rfl, rfl, az_int 984 (by decide +kernel) rfl⟩⟩
set_option maxRecDepth 100000 in
theorem az_ml_8_145 : az_mlp 8 145 0 az_m_X8_goOn 1 := ⟨_, _, az_mp_X8_goOn, Or.inl ⟨rfl, rfl, rfl, az_int 1021 (by decide +kernel) rfl⟩⟩
set_option maxRecDepth 100000 in
theorem az_ml_8_149 : az_mlp 8 149 0 az_m_X8_worthNext 3 := ⟨_, _, az_mp_X8_worthNext, Or.inl ⟨rfl, rfl, rfl, az_int 1050 (by decide +kernel) rfl⟩⟩
set_option maxRecDepth 100000 in
theorem az_ml_8_155 : az_mlp 8 155 0 az_m_X8_isWrong 3 := ⟨_, _, az_mp_X8_isWrong, Or.inl ⟨rfl, rfl, rfl, az_int 1062 (by decide +kernel) rfl⟩⟩
set_option maxRecDepth 100000 in
theorem az_ml_8_158 : az_mlp 8 158 0 az_m_X8_goAhead 3 := ⟨_, _, az_mp_X8_goAhead, Or.inl ⟨rfl, rfl, rfl, az_int 1066 (by decide +kernel) rfl⟩⟩
set_option maxRecDepth 100000 in
theorem az_ml_8_161 : az_mlp 8 161 0 az_m_X8_swungIn 2 := ⟨_, _, az_mp_X8_swungIn, Or.inl ⟨rfl, rfl, rfl, az_int 1078 (by decide +kernel) rfl⟩⟩
set_option maxRecDepth 100000 in
theorem az_ml_8_170 : az_mlp 8 170 0 az_m_X8_begin 1 := ⟨_, _, az_mp_X8_begin, Or.inl ⟨rfl, rfl, rfl, az_int 1103 (by decide +kernel) rfl⟩⟩
set_option maxRecDepth 100000 in
theorem az_ml_8_179 : az_mlp 8 179 0 az_m_X8_isAtRest 2 := ⟨_, _, az_mp_X8_isAtRest, Or.inl ⟨rfl, rfl, rfl, az_int 1107 (by decide +kernel) rfl⟩⟩
set_option maxRecDepth 100000 in
theorem az_ml_8_188 : az_mlp 8 188 0 az_m_X8_isNextPlan 1 := ⟨_, _, az_mp_X8_isNextPlan, Or.inl ⟨rfl, rfl, rfl, az_int 1111 (by decide +kernel) rfl⟩⟩
set_option maxRecDepth 100000 in
theorem az_ml_8_192 : az_mlp 8 192 0 az_m_X8_goThrough 1 := ⟨_, _, az_mp_X8_goThrough, Or.inl ⟨rfl, rfl, rfl, az_int 1099 (by decide +kernel) rfl⟩⟩
set_option maxRecDepth 100000 in
theorem az_ml_8_ok : ∀ q ∈ az_ml_8, az_mlp 8 q.1 q.2.1 q.2.2.1 q.2.2.2 := List.forall_mem_cons.mpr ⟨az_ml_8_17, List.forall_mem_cons.mpr ⟨az_ml_8_21, List.forall_mem_cons.mpr ⟨az_ml_8_69, List.forall_mem_cons.mpr ⟨az_ml_8_83, List.forall_mem_cons.mpr ⟨az_ml_8_90, List.forall_mem_cons.mpr ⟨az_ml_8_93, List.forall_mem_cons.mpr ⟨az_ml_8_97, List.forall_mem_cons.mpr ⟨az_ml_8_101, List.forall_mem_cons.mpr ⟨az_ml_8_104, List.forall_mem_cons.mpr ⟨az_ml_8_108, List.forall_mem_cons.mpr ⟨az_ml_8_111, List.forall_mem_cons.mpr ⟨az_ml_8_115, List.forall_mem_cons.mpr ⟨az_ml_8_118, List.forall_mem_cons.mpr ⟨az_ml_8_126, List.forall_mem_cons.mpr ⟨az_ml_8_129, List.forall_mem_cons.mpr ⟨az_ml_8_133, List.forall_mem_cons.mpr ⟨az_ml_8_136, List.forall_mem_cons.mpr ⟨az_ml_8_139, List.forall_mem_cons.mpr ⟨az_ml_8_142, List.forall_mem_cons.mpr ⟨az_ml_8_145, List.forall_mem_cons.mpr ⟨az_ml_8_149, List.forall_mem_cons.mpr ⟨az_ml_8_155, List.forall_mem_cons.mpr ⟨az_ml_8_158, List.forall_mem_cons.mpr ⟨az_ml_8_161, List.forall_mem_cons.mpr ⟨az_ml_8_170, List.forall_mem_cons.mpr ⟨az_ml_8_179, List.forall_mem_cons.mpr ⟨az_ml_8_188, List.forall_mem_cons.mpr ⟨az_ml_8_192, fun _ h => absurd h List.not_mem_nil⟩⟩⟩⟩⟩⟩⟩⟩⟩⟩⟩⟩⟩⟩⟩⟩⟩⟩⟩⟩⟩⟩⟩⟩⟩⟩⟩⟩
set_option maxRecDepth 100000 in
theorem az_ml_9_335 : az_mlp 9 335 0 az_m_J0_coder_7d493 1 := ⟨_, _, az_mp_J0_coder_7d493, Or.inl ⟨rfl, rfl, rfl, az_int 347 (by decide +kernel) rfl⟩⟩
set_option maxRecDepth 100000 in
theorem az_ml_9_492 : az_mlp 9 492 0 az_m_J0_isLatin1_aae02 1 := ⟨_, _, az_mp_J0_isLatin1_aae02, Or.inl ⟨rfl, rfl, rfl, az_int 357 (by decide +kernel) rfl⟩⟩
set_option maxRecDepth 100000 in
theorem az_ml_9_495 : az_mlp 9 495 2 az_m_J1_charAt_3b067 2 := ⟨_, _, az_mp_J1_charAt_3b067, Or.inr (Or.inr (Or.inl ⟨rfl, rfl, rfl, az_int 361 (by decide +kernel) rfl⟩))⟩
set_option maxRecDepth 100000 in
theorem az_ml_9_505 : az_mlp 9 505 0 az_m_J0_length_8abf5 1 := ⟨_, _, az_mp_J0_length_8abf5, Or.inl ⟨rfl, rfl, rfl, az_int 408 (by decide +kernel) rfl⟩⟩
set_option maxRecDepth 100000 in
theorem az_ml_9_633 : az_mlp 9 633 0 az_m_J0_indexOf_7cf53 3 := ⟨_, _, az_mp_J0_indexOf_7cf53, Or.inl ⟨rfl, rfl, rfl, az_int 404 (by decide +kernel) rfl⟩⟩
set_option maxRecDepth 100000 in
theorem az_ml_9_637 : az_mlp 9 637 2 az_m_J1_indexOf_4cfef 4 := ⟨_, _, az_mp_J1_indexOf_4cfef, Or.inr (Or.inr (Or.inl ⟨rfl, rfl, rfl, az_int 409 (by decide +kernel) rfl⟩))⟩
set_option maxRecDepth 100000 in
theorem az_ml_9_1059 : az_mlp 9 1059 2 az_m_J3_checkIndex_8e157 3 := ⟨_, _, az_mp_J3_checkIndex_8e157, Or.inr (Or.inr (Or.inl ⟨rfl, rfl, rfl, az_int 369 (by decide +kernel) rfl⟩))⟩
set_option maxRecDepth 100000 in
theorem az_ml_9_ok : ∀ q ∈ az_ml_9, az_mlp 9 q.1 q.2.1 q.2.2.1 q.2.2.2 := List.forall_mem_cons.mpr ⟨az_ml_9_335, List.forall_mem_cons.mpr ⟨az_ml_9_492, List.forall_mem_cons.mpr ⟨az_ml_9_495, List.forall_mem_cons.mpr ⟨az_ml_9_505, List.forall_mem_cons.mpr ⟨az_ml_9_633, List.forall_mem_cons.mpr ⟨az_ml_9_637, List.forall_mem_cons.mpr ⟨az_ml_9_1059, fun _ h => absurd h List.not_mem_nil⟩⟩⟩⟩⟩⟩⟩
set_option maxRecDepth 100000 in
theorem az_ml_10_9 : az_mlp 10 9 2 az_m_J0_checkIndex_df160 2 := ⟨_, _, az_mp_J0_checkIndex_df160, Or.inr (Or.inr (Or.inl ⟨rfl, rfl, rfl, az_int 364 (by decide +kernel) rfl⟩))⟩
set_option maxRecDepth 100000 in
theorem az_ml_10_88 : az_mlp 10 88 2 az_m_J1_canEncode_9a6ad 1 := ⟨_, _, az_mp_J1_canEncode_9a6ad, Or.inr (Or.inr (Or.inl ⟨rfl, rfl, rfl, az_int 412 (by decide +kernel) rfl⟩))⟩
set_option maxRecDepth 100000 in
theorem az_ml_10_95 : az_mlp 10 95 2 az_m_J1_indexOfChar_4cfef 4 := ⟨_, _, az_mp_J1_indexOfChar_4cfef, Or.inr (Or.inr (Or.inl ⟨rfl, rfl, rfl, az_int 419 (by decide +kernel) rfl⟩))⟩
set_option maxRecDepth 100000 in
theorem az_ml_10_ok : ∀ q ∈ az_ml_10, az_mlp 10 q.1 q.2.1 q.2.2.1 q.2.2.2 := List.forall_mem_cons.mpr ⟨az_ml_10_9, List.forall_mem_cons.mpr ⟨az_ml_10_88, List.forall_mem_cons.mpr ⟨az_ml_10_95, fun _ h => absurd h List.not_mem_nil⟩⟩⟩
set_option maxRecDepth 100000 in
theorem az_ml_11_414 : az_mlp 11 414 2 az_m_J0_checkIndex_df160 2 := ⟨_, _, az_mp_J0_checkIndex_df160, Or.inr (Or.inr (Or.inl ⟨rfl, rfl, rfl, az_int 381 (by decide +kernel) rfl⟩))⟩
set_option maxRecDepth 100000 in
theorem az_ml_11_ok : ∀ q ∈ az_ml_11, az_mlp 11 q.1 q.2.1 q.2.2.1 q.2.2.2 := List.forall_mem_cons.mpr ⟨az_ml_11_414, fun _ h => absurd h List.not_mem_nil⟩
set_option maxRecDepth 100000 in
theorem az_ml_15_13 : az_mlp 15 13 0 az_m_X7_letter 2 := ⟨_, _, az_mp_X7_letter, Or.inl ⟨rfl, rfl, rfl, az_int 260 (by decide +kernel) rfl⟩⟩
set_option maxRecDepth 100000 in
theorem az_ml_15_17 : az_mlp 15 17 0 az_m_X8_letter 2 := ⟨_, _, az_mp_X8_letter, Or.inl ⟨rfl, rfl, rfl, az_int 940 (by decide +kernel) rfl⟩⟩
set_option maxRecDepth 100000 in
theorem az_ml_15_18 : az_mlp 15 18 0 az_m_X7_town 1 := ⟨_, _, az_mp_X7_town, Or.inl ⟨rfl, rfl, rfl, az_int 285 (by decide +kernel) rfl⟩⟩
set_option maxRecDepth 100000 in
theorem az_ml_15_22 : az_mlp 15 22 0 az_m_X8_town 1 := ⟨_, _, az_mp_X8_town, Or.inl ⟨rfl, rfl, rfl, az_int 944 (by decide +kernel) rfl⟩⟩
set_option maxRecDepth 100000 in
theorem az_ml_15_23 : az_mlp 15 23 0 az_m_X7_sort 3 := ⟨_, _, az_mp_X7_sort, Or.inl ⟨rfl, rfl, rfl, az_int 512 (by decide +kernel) rfl⟩⟩
set_option maxRecDepth 100000 in
theorem az_ml_15_27 : az_mlp 15 27 0 az_m_X8_sort 3 := ⟨_, _, az_mp_X8_sort, Or.inl ⟨rfl, rfl, rfl, az_int 980 (by decide +kernel) rfl⟩⟩
set_option maxRecDepth 100000 in
theorem az_ml_15_28 : az_mlp 15 28 0 az_m_X7_rule 3 := ⟨_, _, az_mp_X7_rule, Or.inl ⟨rfl, rfl, rfl, az_int 520 (by decide +kernel) rfl⟩⟩
set_option maxRecDepth 100000 in
theorem az_ml_15_31 : az_mlp 15 31 0 az_m_X8_rule 3 := ⟨_, _, az_mp_X8_rule, Or.inl ⟨rfl, rfl, rfl, az_int 992 (by decide +kernel) rfl⟩⟩
set_option maxRecDepth 100000 in
theorem az_ml_15_32 : az_mlp 15 32 0 az_m_X7_remembered 2 := ⟨_, _, az_mp_X7_remembered, Or.inl ⟨rfl, rfl, rfl, az_int 546 (by decide +kernel) rfl⟩⟩
set_option maxRecDepth 100000 in
theorem az_ml_15_35 : az_mlp 15 35 0 az_m_X8_remembered 2 := ⟨_, _, az_mp_X8_remembered, Or.inl ⟨rfl, rfl, rfl, az_int 1009 (by decide +kernel) rfl⟩⟩
set_option maxRecDepth 100000 in
theorem az_ml_15_36 : az_mlp 15 36 0 az_m_X7_penny 2 := ⟨_, _, az_mp_X7_penny, Or.inl ⟨rfl, rfl, rfl, az_int 551 (by decide +kernel) rfl⟩⟩
set_option maxRecDepth 100000 in
theorem az_ml_15_39 : az_mlp 15 39 0 az_m_X8_penny 2 := ⟨_, _, az_mp_X8_penny, Or.inl ⟨rfl, rfl, rfl, az_int 1013 (by decide +kernel) rfl⟩⟩
set_option maxRecDepth 100000 in
theorem az_ml_15_40 : az_mlp 15 40 0 az_m_X7_week 1 := ⟨_, _, az_mp_X7_week, Or.inl ⟨rfl, rfl, rfl, az_int 555 (by decide +kernel) rfl⟩⟩
set_option maxRecDepth 100000 in
theorem az_ml_15_43 : az_mlp 15 43 0 az_m_X8_week 1 := ⟨_, _, az_mp_X8_week, Or.inl ⟨rfl, rfl, rfl, az_int 1017 (by decide +kernel) rfl⟩⟩
set_option maxRecDepth 100000 in
theorem az_ml_15_44 : az_mlp 15 44 0 az_m_X7_next 1 := ⟨_, _, az_mp_X7_next, Or.inl ⟨rfl, rfl, rfl, az_int 594 (by decide +kernel) rfl⟩⟩
set_option maxRecDepth 100000 in
theorem az_ml_15_47 : az_mlp 15 47 0 az_m_X8_next 1 := ⟨_, _, az_mp_X8_next, Or.inl ⟨rfl, rfl, rfl, az_int 1037 (by decide +kernel) rfl⟩⟩
set_option maxRecDepth 100000 in
theorem az_ml_15_48 : az_mlp 15 48 0 az_m_X7_goes 2 := ⟨_, _, az_mp_X7_goes, Or.inl ⟨rfl, rfl, rfl, az_int 602 (by decide +kernel) rfl⟩⟩
set_option maxRecDepth 100000 in
theorem az_ml_15_51 : az_mlp 15 51 0 az_m_X8_goes 2 := ⟨_, _, az_mp_X8_goes, Or.inl ⟨rfl, rfl, rfl, az_int 1041 (by decide +kernel) rfl⟩⟩
set_option maxRecDepth 100000 in
theorem az_ml_15_52 : az_mlp 15 52 0 az_m_X7_worth 2 := ⟨_, _, az_mp_X7_worth, Or.inl ⟨rfl, rfl, rfl, az_int 606 (by decide +kernel) rfl⟩⟩
set_option maxRecDepth 100000 in
theorem az_ml_15_55 : az_mlp 15 55 0 az_m_X8_worth 2 := ⟨_, _, az_mp_X8_worth, Or.inl ⟨rfl, rfl, rfl, az_int 1045 (by decide +kernel) rfl⟩⟩
set_option maxRecDepth 100000 in
theorem az_ml_15_56 : az_mlp 15 56 0 az_m_X7_after 2 := ⟨_, _, az_mp_X7_after, Or.inl ⟨rfl, rfl, rfl, az_int 624 (by decide +kernel) rfl⟩⟩
set_option maxRecDepth 100000 in
theorem az_ml_15_59 : az_mlp 15 59 0 az_m_X8_after 2 := ⟨_, _, az_mp_X8_after, Or.inl ⟨rfl, rfl, rfl, az_int 1058 (by decide +kernel) rfl⟩⟩
set_option maxRecDepth 100000 in
theorem az_ml_15_60 : az_mlp 15 60 0 az_m_X7_mean 2 := ⟨_, _, az_mp_X7_mean, Or.inl ⟨rfl, rfl, rfl, az_int 637 (by decide +kernel) rfl⟩⟩
set_option maxRecDepth 100000 in
theorem az_ml_15_63 : az_mlp 15 63 0 az_m_X8_mean 2 := ⟨_, _, az_mp_X8_mean, Or.inl ⟨rfl, rfl, rfl, az_int 1070 (by decide +kernel) rfl⟩⟩
set_option maxRecDepth 100000 in
theorem az_ml_15_64 : az_mlp 15 64 0 az_m_X7_swing 2 := ⟨_, _, az_mp_X7_swing, Or.inl ⟨rfl, rfl, rfl, az_int 642 (by decide +kernel) rfl⟩⟩
set_option maxRecDepth 100000 in
theorem az_ml_15_67 : az_mlp 15 67 0 az_m_X8_swing 2 := ⟨_, _, az_mp_X8_swing, Or.inl ⟨rfl, rfl, rfl, az_int 1074 (by decide +kernel) rfl⟩⟩
set_option maxRecDepth 100000 in
theorem az_ml_15_68 : az_mlp 15 68 0 az_m_X7_good 2 := ⟨_, _, az_mp_X7_good, Or.inl ⟨rfl, rfl, rfl, az_int 652 (by decide +kernel) rfl⟩⟩
set_option maxRecDepth 100000 in
theorem az_ml_15_71 : az_mlp 15 71 0 az_m_X8_good 2 := ⟨_, _, az_mp_X8_good, Or.inl ⟨rfl, rfl, rfl, az_int 1083 (by decide +kernel) rfl⟩⟩
set_option maxRecDepth 100000 in
theorem az_ml_15_72 : az_mlp 15 72 0 az_m_X7_again 1 := ⟨_, _, az_mp_X7_again, Or.inl ⟨rfl, rfl, rfl, az_int 656 (by decide +kernel) rfl⟩⟩
set_option maxRecDepth 100000 in
theorem az_ml_15_75 : az_mlp 15 75 0 az_m_X8_again 1 := ⟨_, _, az_mp_X8_again, Or.inl ⟨rfl, rfl, rfl, az_int 1087 (by decide +kernel) rfl⟩⟩
set_option maxRecDepth 100000 in
theorem az_ml_15_76 : az_mlp 15 76 0 az_m_X7_gains 3 := ⟨_, _, az_mp_X7_gains, Or.inl ⟨rfl, rfl, rfl, az_int 664 (by decide +kernel) rfl⟩⟩
set_option maxRecDepth 100000 in
theorem az_ml_15_79 : az_mlp 15 79 0 az_m_X8_gains 3 := ⟨_, _, az_mp_X8_gains, Or.inl ⟨rfl, rfl, rfl, az_int 1091 (by decide +kernel) rfl⟩⟩
set_option maxRecDepth 100000 in
theorem az_ml_15_80 : az_mlp 15 80 0 az_m_X7_rests 1 := ⟨_, _, az_mp_X7_rests, Or.inl ⟨rfl, rfl, rfl, az_int 672 (by decide +kernel) rfl⟩⟩
set_option maxRecDepth 100000 in
theorem az_ml_15_83 : az_mlp 15 83 0 az_m_X8_rests 1 := ⟨_, _, az_mp_X8_rests, Or.inl ⟨rfl, rfl, rfl, az_int 1095 (by decide +kernel) rfl⟩⟩
set_option maxRecDepth 100000 in
theorem az_ml_15_84 : az_mlp 15 84 0 az_m_X7_rest 2 := ⟨_, _, az_mp_X7_rest, Or.inl ⟨rfl, rfl, rfl, az_int 713 (by decide +kernel) rfl⟩⟩
set_option maxRecDepth 100000 in
theorem az_ml_15_87 : az_mlp 15 87 0 az_m_X8_rest 2 := ⟨_, _, az_mp_X8_rest, Or.inl ⟨rfl, rfl, rfl, az_int 1115 (by decide +kernel) rfl⟩⟩
set_option maxRecDepth 100000 in
theorem az_ml_15_88 : az_mlp 15 88 0 az_m_X7_best 2 := ⟨_, _, az_mp_X7_best, Or.inl ⟨rfl, rfl, rfl, az_int 749 (by decide +kernel) rfl⟩⟩
set_option maxRecDepth 100000 in
theorem az_ml_15_91 : az_mlp 15 91 0 az_m_X8_best 2 := ⟨_, _, az_mp_X8_best, Or.inl ⟨rfl, rfl, rfl, az_int 1119 (by decide +kernel) rfl⟩⟩
set_option maxRecDepth 100000 in
theorem az_ml_15_92 : az_mlp 15 92 0 az_m_X7_off 1 := ⟨_, _, az_mp_X7_off, Or.inl ⟨rfl, rfl, rfl, az_int 768 (by decide +kernel) rfl⟩⟩
set_option maxRecDepth 100000 in
theorem az_ml_15_95 : az_mlp 15 95 0 az_m_X8_off 1 := ⟨_, _, az_mp_X8_off, Or.inl ⟨rfl, rfl, rfl, az_int 1123 (by decide +kernel) rfl⟩⟩
set_option maxRecDepth 100000 in
theorem az_ml_15_96 : az_mlp 15 96 0 az_m_X7_pennies 1 := ⟨_, _, az_mp_X7_pennies, Or.inl ⟨rfl, rfl, rfl, az_int 777 (by decide +kernel) rfl⟩⟩
set_option maxRecDepth 100000 in
theorem az_ml_15_99 : az_mlp 15 99 0 az_m_X8_pennies 1 := ⟨_, _, az_mp_X8_pennies, Or.inl ⟨rfl, rfl, rfl, az_int 1127 (by decide +kernel) rfl⟩⟩
set_option maxRecDepth 100000 in
theorem az_ml_15_100 : az_mlp 15 100 0 az_m_X7_chairs 1 := ⟨_, _, az_mp_X7_chairs, Or.inl ⟨rfl, rfl, rfl, az_int 781 (by decide +kernel) rfl⟩⟩
set_option maxRecDepth 100000 in
theorem az_ml_15_103 : az_mlp 15 103 0 az_m_X8_chairs 1 := ⟨_, _, az_mp_X8_chairs, Or.inl ⟨rfl, rfl, rfl, az_int 1131 (by decide +kernel) rfl⟩⟩
set_option maxRecDepth 100000 in
theorem az_ml_15_104 : az_mlp 15 104 0 az_m_X7_sees 5 := ⟨_, _, az_mp_X7_sees, Or.inl ⟨rfl, rfl, rfl, az_int 785 (by decide +kernel) rfl⟩⟩
set_option maxRecDepth 100000 in
theorem az_ml_15_108 : az_mlp 15 108 0 az_m_X8_sees 5 := ⟨_, _, az_mp_X8_sees, Or.inl ⟨rfl, rfl, rfl, az_int 1135 (by decide +kernel) rfl⟩⟩
set_option maxRecDepth 100000 in
theorem az_ml_15_109 : az_mlp 15 109 0 az_m_X7_which 2 := ⟨_, _, az_mp_X7_which, Or.inl ⟨rfl, rfl, rfl, az_int 790 (by decide +kernel) rfl⟩⟩
set_option maxRecDepth 100000 in
theorem az_ml_15_112 : az_mlp 15 112 0 az_m_X8_which 2 := ⟨_, _, az_mp_X8_which, Or.inl ⟨rfl, rfl, rfl, az_int 1139 (by decide +kernel) rfl⟩⟩
set_option maxRecDepth 100000 in
theorem az_ml_15_113 : az_mlp 15 113 0 az_m_X7_longer 2 := ⟨_, _, az_mp_X7_longer, Or.inl ⟨rfl, rfl, rfl, az_int 799 (by decide +kernel) rfl⟩⟩
set_option maxRecDepth 100000 in
theorem az_ml_15_116 : az_mlp 15 116 0 az_m_X8_longer 2 := ⟨_, _, az_mp_X8_longer, Or.inl ⟨rfl, rfl, rfl, az_int 1143 (by decide +kernel) rfl⟩⟩
set_option maxRecDepth 100000 in
theorem az_ml_15_117 : az_mlp 15 117 0 az_m_X7_seeds 3 := ⟨_, _, az_mp_X7_seeds, Or.inl ⟨rfl, rfl, rfl, az_int 803 (by decide +kernel) rfl⟩⟩
set_option maxRecDepth 100000 in
theorem az_ml_15_120 : az_mlp 15 120 0 az_m_X8_seeds 3 := ⟨_, _, az_mp_X8_seeds, Or.inl ⟨rfl, rfl, rfl, az_int 1147 (by decide +kernel) rfl⟩⟩
set_option maxRecDepth 100000 in
theorem az_ml_15_121 : az_mlp 15 121 0 az_m_X7_row 2 := ⟨_, _, az_mp_X7_row, Or.inl ⟨rfl, rfl, rfl, az_int 814 (by decide +kernel) rfl⟩⟩
set_option maxRecDepth 100000 in
theorem az_ml_15_124 : az_mlp 15 124 0 az_m_X8_row 2 := ⟨_, _, az_mp_X8_row, Or.inl ⟨rfl, rfl, rfl, az_int 1154 (by decide +kernel) rfl⟩⟩
set_option maxRecDepth 100000 in
theorem az_ml_15_125 : az_mlp 15 125 0 az_m_X7_judge 1 := ⟨_, _, az_mp_X7_judge, Or.inl ⟨rfl, rfl, rfl, az_int 818 (by decide +kernel) rfl⟩⟩
set_option maxRecDepth 100000 in
theorem az_ml_15_128 : az_mlp 15 128 0 az_m_X8_judge 1 := ⟨_, _, az_mp_X8_judge, Or.inl ⟨rfl, rfl, rfl, az_int 1158 (by decide +kernel) rfl⟩⟩
set_option maxRecDepth 100000 in
theorem az_ml_15_129 : az_mlp 15 129 0 az_m_X7_image 1 := ⟨_, _, az_mp_X7_image, Or.inl ⟨rfl, rfl, rfl, az_int 822 (by decide +kernel) rfl⟩⟩
set_option maxRecDepth 100000 in
theorem az_ml_15_132 : az_mlp 15 132 0 az_m_X8_image 1 := ⟨_, _, az_mp_X8_image, Or.inl ⟨rfl, rfl, rfl, az_int 835 (by decide +kernel) rfl⟩⟩
set_option maxRecDepth 100000 in
theorem az_ml_15_133 : az_mlp 15 133 0 az_m_X7_on 1 := ⟨_, _, az_mp_X7_on, Or.inl ⟨rfl, rfl, rfl, az_int 826 (by decide +kernel) rfl⟩⟩
set_option maxRecDepth 100000 in
theorem az_ml_15_136 : az_mlp 15 136 0 az_m_X8_on 1 := ⟨_, _, az_mp_X8_on, Or.inl ⟨rfl, rfl, rfl, az_int 842 (by decide +kernel) rfl⟩⟩
set_option maxRecDepth 100000 in
theorem az_ml_15_137 : az_mlp 15 137 0 az_m_X7_count 2 := ⟨_, _, az_mp_X7_count, Or.inl ⟨rfl, rfl, rfl, az_int 830 (by decide +kernel) rfl⟩⟩
set_option maxRecDepth 100000 in
theorem az_ml_15_140 : az_mlp 15 140 0 az_m_X8_count 2 := ⟨_, _, az_mp_X8_count, Or.inl ⟨rfl, rfl, rfl, az_int 1162 (by decide +kernel) rfl⟩⟩
set_option maxRecDepth 100000 in
theorem az_ml_15_ok : ∀ q ∈ az_ml_15, az_mlp 15 q.1 q.2.1 q.2.2.1 q.2.2.2 := List.forall_mem_cons.mpr ⟨az_ml_15_13, List.forall_mem_cons.mpr ⟨az_ml_15_17, List.forall_mem_cons.mpr ⟨az_ml_15_18, List.forall_mem_cons.mpr ⟨az_ml_15_22, List.forall_mem_cons.mpr ⟨az_ml_15_23, List.forall_mem_cons.mpr ⟨az_ml_15_27, List.forall_mem_cons.mpr ⟨az_ml_15_28, List.forall_mem_cons.mpr ⟨az_ml_15_31, List.forall_mem_cons.mpr ⟨az_ml_15_32, List.forall_mem_cons.mpr ⟨az_ml_15_35, List.forall_mem_cons.mpr ⟨az_ml_15_36, List.forall_mem_cons.mpr ⟨az_ml_15_39, List.forall_mem_cons.mpr ⟨az_ml_15_40, List.forall_mem_cons.mpr ⟨az_ml_15_43, List.forall_mem_cons.mpr ⟨az_ml_15_44, List.forall_mem_cons.mpr ⟨az_ml_15_47, List.forall_mem_cons.mpr ⟨az_ml_15_48, List.forall_mem_cons.mpr ⟨az_ml_15_51, List.forall_mem_cons.mpr ⟨az_ml_15_52, List.forall_mem_cons.mpr ⟨az_ml_15_55, List.forall_mem_cons.mpr ⟨az_ml_15_56, List.forall_mem_cons.mpr ⟨az_ml_15_59, List.forall_mem_cons.mpr ⟨az_ml_15_60, List.forall_mem_cons.mpr ⟨az_ml_15_63, List.forall_mem_cons.mpr ⟨az_ml_15_64, List.forall_mem_cons.mpr ⟨az_ml_15_67, List.forall_mem_cons.mpr ⟨az_ml_15_68, List.forall_mem_cons.mpr ⟨az_ml_15_71, List.forall_mem_cons.mpr ⟨az_ml_15_72, List.forall_mem_cons.mpr ⟨az_ml_15_75, List.forall_mem_cons.mpr ⟨az_ml_15_76, List.forall_mem_cons.mpr ⟨az_ml_15_79, List.forall_mem_cons.mpr ⟨az_ml_15_80, List.forall_mem_cons.mpr ⟨az_ml_15_83, List.forall_mem_cons.mpr ⟨az_ml_15_84, List.forall_mem_cons.mpr ⟨az_ml_15_87, List.forall_mem_cons.mpr ⟨az_ml_15_88, List.forall_mem_cons.mpr ⟨az_ml_15_91, List.forall_mem_cons.mpr ⟨az_ml_15_92, List.forall_mem_cons.mpr ⟨az_ml_15_95, List.forall_mem_cons.mpr ⟨az_ml_15_96, List.forall_mem_cons.mpr ⟨az_ml_15_99, List.forall_mem_cons.mpr ⟨az_ml_15_100, List.forall_mem_cons.mpr ⟨az_ml_15_103, List.forall_mem_cons.mpr ⟨az_ml_15_104, List.forall_mem_cons.mpr ⟨az_ml_15_108, List.forall_mem_cons.mpr ⟨az_ml_15_109, List.forall_mem_cons.mpr ⟨az_ml_15_112, List.forall_mem_cons.mpr ⟨az_ml_15_113, List.forall_mem_cons.mpr ⟨az_ml_15_116, List.forall_mem_cons.mpr ⟨az_ml_15_117, List.forall_mem_cons.mpr ⟨az_ml_15_120, List.forall_mem_cons.mpr ⟨az_ml_15_121, List.forall_mem_cons.mpr ⟨az_ml_15_124, List.forall_mem_cons.mpr ⟨az_ml_15_125, List.forall_mem_cons.mpr ⟨az_ml_15_128, List.forall_mem_cons.mpr ⟨az_ml_15_129, List.forall_mem_cons.mpr ⟨az_ml_15_132, List.forall_mem_cons.mpr ⟨az_ml_15_133, List.forall_mem_cons.mpr ⟨az_ml_15_136, List.forall_mem_cons.mpr ⟨az_ml_15_137, List.forall_mem_cons.mpr ⟨az_ml_15_140, fun _ h => absurd h List.not_mem_nil⟩⟩⟩⟩⟩⟩⟩⟩⟩⟩⟩⟩⟩⟩⟩⟩⟩⟩⟩⟩⟩⟩⟩⟩⟩⟩⟩⟩⟩⟩⟩⟩⟩⟩⟩⟩⟩⟩⟩⟩⟩⟩⟩⟩⟩⟩⟩⟩⟩⟩⟩⟩⟩⟩⟩⟩⟩⟩⟩⟩⟩⟩
theorem az_ml_ok {c k tag na : Nat} {C : az_M} (h : az_ml c k = some (tag, C, na)) : az_mlp c k tag C na := by
  unfold az_ml at h
  split at h
  · exact az_ml_0_ok _ (az_pool_in h)
  · exact az_ml_1_ok _ (az_pool_in h)
  · exact az_ml_2_ok _ (az_pool_in h)
  · exact az_ml_3_ok _ (az_pool_in h)
  · exact az_ml_4_ok _ (az_pool_in h)
  · exact az_ml_5_ok _ (az_pool_in h)
  · exact az_ml_6_ok _ (az_pool_in h)
  · exact az_ml_7_ok _ (az_pool_in h)
  · exact az_ml_8_ok _ (az_pool_in h)
  · exact az_ml_9_ok _ (az_pool_in h)
  · exact az_ml_10_ok _ (az_pool_in h)
  · exact az_ml_11_ok _ (az_pool_in h)
  · exact az_ml_15_ok _ (az_pool_in h)
  · cases h
def az_txr : List (Nat × String × Nat) := [(75, "##;", 1000), (77, "#;", 1001), (65, "#k#,###;", 1002), (67, "f#;", 1003), (69, "", 1004), (79, "anrhue", 1005), (85, "lomtbf", 1006)]
def az_ldp (c k : Nat) (v : Value) : Prop := (∃ x : Int32, v = .int x ∧ Cond.constant (az_own c) k x ∈ az_wg) ∨ (c = 5 ∧ ∃ tx a, v = .ref a ∧ (k, tx, a) ∈ az_txr)
set_option maxRecDepth 100000 in
theorem az_ld_0_ok : ∀ q ∈ az_ldc_0, az_ldp 0 q.1 q.2 := List.forall_mem_cons.mpr ⟨Or.inl ⟨_, rfl, az_int 731 (by decide +kernel) rfl⟩, fun _ h => absurd h List.not_mem_nil⟩
set_option maxRecDepth 100000 in
theorem az_ld_2_ok : ∀ q ∈ az_ldc_2, az_ldp 2 q.1 q.2 := List.forall_mem_cons.mpr ⟨Or.inl ⟨_, rfl, az_int 722 (by decide +kernel) rfl⟩, fun _ h => absurd h List.not_mem_nil⟩
set_option maxRecDepth 100000 in
theorem az_ld_5_ok : ∀ q ∈ az_ldc_5, az_ldp 5 q.1 q.2 := List.forall_mem_cons.mpr ⟨Or.inr ⟨rfl, _, _, rfl, List.mem_of_getElem? (i := 2) rfl⟩, List.forall_mem_cons.mpr ⟨Or.inr ⟨rfl, _, _, rfl, List.mem_of_getElem? (i := 3) rfl⟩, List.forall_mem_cons.mpr ⟨Or.inr ⟨rfl, _, _, rfl, List.mem_of_getElem? (i := 4) rfl⟩, List.forall_mem_cons.mpr ⟨Or.inr ⟨rfl, _, _, rfl, List.mem_of_getElem? (i := 0) rfl⟩, List.forall_mem_cons.mpr ⟨Or.inr ⟨rfl, _, _, rfl, List.mem_of_getElem? (i := 1) rfl⟩, List.forall_mem_cons.mpr ⟨Or.inr ⟨rfl, _, _, rfl, List.mem_of_getElem? (i := 5) rfl⟩, List.forall_mem_cons.mpr ⟨Or.inr ⟨rfl, _, _, rfl, List.mem_of_getElem? (i := 6) rfl⟩, fun _ h => absurd h List.not_mem_nil⟩⟩⟩⟩⟩⟩⟩
set_option maxRecDepth 100000 in
theorem az_ld_6_ok : ∀ q ∈ az_ldc_6, az_ldp 6 q.1 q.2 := List.forall_mem_cons.mpr ⟨Or.inl ⟨_, rfl, az_int 811 (by decide +kernel) rfl⟩, List.forall_mem_cons.mpr ⟨Or.inl ⟨_, rfl, az_int 812 (by decide +kernel) rfl⟩, List.forall_mem_cons.mpr ⟨Or.inl ⟨_, rfl, az_int 813 (by decide +kernel) rfl⟩, fun _ h => absurd h List.not_mem_nil⟩⟩⟩
set_option maxRecDepth 100000 in
theorem az_ld_7_ok : ∀ q ∈ az_ldc_7, az_ldp 7 q.1 q.2 := List.forall_mem_cons.mpr ⟨Or.inl ⟨_, rfl, az_int 776 (by decide +kernel) rfl⟩, List.forall_mem_cons.mpr ⟨Or.inl ⟨_, rfl, az_int 614 (by decide +kernel) rfl⟩, fun _ h => absurd h List.not_mem_nil⟩⟩
set_option maxRecDepth 100000 in
theorem az_ld_8_ok : ∀ q ∈ az_ldc_8, az_ldp 8 q.1 q.2 := List.forall_mem_cons.mpr ⟨Or.inl ⟨_, rfl, az_int 1049 (by decide +kernel) rfl⟩, List.forall_mem_cons.mpr ⟨Or.inl ⟨_, rfl, az_int 1151 (by decide +kernel) rfl⟩, List.forall_mem_cons.mpr ⟨Or.inl ⟨_, rfl, az_int 1152 (by decide +kernel) rfl⟩, List.forall_mem_cons.mpr ⟨Or.inl ⟨_, rfl, az_int 1153 (by decide +kernel) rfl⟩, fun _ h => absurd h List.not_mem_nil⟩⟩⟩⟩
set_option maxRecDepth 100000 in
theorem az_ld_11_ok : ∀ q ∈ az_ldc_11, az_ldp 11 q.1 q.2 := List.forall_mem_cons.mpr ⟨Or.inl ⟨_, rfl, az_int 427 (by decide +kernel) rfl⟩, fun _ h => absurd h List.not_mem_nil⟩
set_option maxRecDepth 100000 in
theorem az_ld_14_ok : ∀ q ∈ az_ldc_14, az_ldp 14 q.1 q.2 := List.forall_mem_cons.mpr ⟨Or.inl ⟨_, rfl, az_int 456 (by decide +kernel) rfl⟩, List.forall_mem_cons.mpr ⟨Or.inl ⟨_, rfl, az_int 452 (by decide +kernel) rfl⟩, fun _ h => absurd h List.not_mem_nil⟩⟩
theorem az_ld_ok {c k : Nat} {v : Value} (h : az_ldc c k = some v) : az_ldp c k v := by
  unfold az_ldc at h
  split at h
  · exact az_ld_0_ok _ (az_pool_in h)
  · exact az_ld_2_ok _ (az_pool_in h)
  · exact az_ld_5_ok _ (az_pool_in h)
  · exact az_ld_6_ok _ (az_pool_in h)
  · exact az_ld_7_ok _ (az_pool_in h)
  · exact az_ld_8_ok _ (az_pool_in h)
  · exact az_ld_11_ok _ (az_pool_in h)
  · exact az_ld_14_ok _ (az_pool_in h)
  · cases h
def az_csp (c k : Nat) (v : Value) : Prop := (v = .int 1 ∧ Cond.fieldLink (az_own c) k "java/lang/String" "COMPACT_STRINGS" "Z" ∈ az_wg) ∨ (v = .retAddr 0 ∧ Cond.fieldLink (az_own c) k "jdk/internal/util/Preconditions" "SIOOBE_FORMATTER" "Ljava/util/function/BiFunction;" ∈ az_wg)
set_option maxRecDepth 100000 in
theorem az_cs_9_ok : ∀ q ∈ az_cs_9, az_csp 9 q.1 q.2 := List.forall_mem_cons.mpr ⟨Or.inl ⟨rfl, az_int 351 (by decide +kernel) rfl⟩, List.forall_mem_cons.mpr ⟨Or.inr ⟨rfl, az_int 367 (by decide +kernel) rfl⟩, fun _ h => absurd h List.not_mem_nil⟩⟩
theorem az_cs_ok {c k : Nat} {v : Value} (h : az_cs c k = some v) : az_csp c k v := by
  unfold az_cs at h
  split at h
  · exact az_cs_9_ok _ (az_pool_in h)
  · cases h
def az_mxp (c k : Nat) (b : Bool) : Prop := (b = true ∧ Cond.methodLink (az_own c) k Lib.Math.max.name ∈ az_wg) ∨ (b = false ∧ Cond.methodLink (az_own c) k Lib.Math.min.name ∈ az_wg)
set_option maxRecDepth 100000 in
theorem az_mx_0_ok : ∀ q ∈ az_mx_0, az_mxp 0 q.1 q.2 := List.forall_mem_cons.mpr ⟨Or.inr ⟨rfl, az_int 698 (by decide +kernel) rfl⟩, List.forall_mem_cons.mpr ⟨Or.inl ⟨rfl, az_int 712 (by decide +kernel) rfl⟩, fun _ h => absurd h List.not_mem_nil⟩⟩
set_option maxRecDepth 100000 in
theorem az_mx_1_ok : ∀ q ∈ az_mx_1, az_mxp 1 q.1 q.2 := List.forall_mem_cons.mpr ⟨Or.inr ⟨rfl, az_int 484 (by decide +kernel) rfl⟩, fun _ h => absurd h List.not_mem_nil⟩
set_option maxRecDepth 100000 in
theorem az_mx_2_ok : ∀ q ∈ az_mx_2, az_mxp 2 q.1 q.2 := List.forall_mem_cons.mpr ⟨Or.inl ⟨rfl, az_int 762 (by decide +kernel) rfl⟩, fun _ h => absurd h List.not_mem_nil⟩
set_option maxRecDepth 100000 in
theorem az_mx_3_ok : ∀ q ∈ az_mx_3, az_mxp 3 q.1 q.2 := List.forall_mem_cons.mpr ⟨Or.inr ⟨rfl, az_int 636 (by decide +kernel) rfl⟩, fun _ h => absurd h List.not_mem_nil⟩
set_option maxRecDepth 100000 in
theorem az_mx_5_ok : ∀ q ∈ az_mx_5, az_mxp 5 q.1 q.2 := List.forall_mem_cons.mpr ⟨Or.inr ⟨rfl, az_int 282 (by decide +kernel) rfl⟩, fun _ h => absurd h List.not_mem_nil⟩
set_option maxRecDepth 100000 in
theorem az_mx_6_ok : ∀ q ∈ az_mx_6, az_mxp 6 q.1 q.2 := List.forall_mem_cons.mpr ⟨Or.inl ⟨rfl, az_int 538 (by decide +kernel) rfl⟩, fun _ h => absurd h List.not_mem_nil⟩
set_option maxRecDepth 100000 in
theorem az_mx_7_ok : ∀ q ∈ az_mx_7, az_mxp 7 q.1 q.2 := List.forall_mem_cons.mpr ⟨Or.inr ⟨rfl, az_int 650 (by decide +kernel) rfl⟩, List.forall_mem_cons.mpr ⟨Or.inl ⟨rfl, az_int 651 (by decide +kernel) rfl⟩, fun _ h => absurd h List.not_mem_nil⟩⟩
set_option maxRecDepth 100000 in
theorem az_mx_8_ok : ∀ q ∈ az_mx_8, az_mxp 8 q.1 q.2 := List.forall_mem_cons.mpr ⟨Or.inl ⟨rfl, az_int 1008 (by decide +kernel) rfl⟩, List.forall_mem_cons.mpr ⟨Or.inr ⟨rfl, az_int 1082 (by decide +kernel) rfl⟩, fun _ h => absurd h List.not_mem_nil⟩⟩
set_option maxRecDepth 100000 in
theorem az_mx_10_ok : ∀ q ∈ az_mx_10, az_mxp 10 q.1 q.2 := List.forall_mem_cons.mpr ⟨Or.inr ⟨rfl, az_int 418 (by decide +kernel) rfl⟩, List.forall_mem_cons.mpr ⟨Or.inl ⟨rfl, az_int 415 (by decide +kernel) rfl⟩, fun _ h => absurd h List.not_mem_nil⟩⟩
set_option maxRecDepth 100000 in
theorem az_mx_11_ok : ∀ q ∈ az_mx_11, az_mxp 11 q.1 q.2 := List.forall_mem_cons.mpr ⟨Or.inr ⟨rfl, az_int 426 (by decide +kernel) rfl⟩, List.forall_mem_cons.mpr ⟨Or.inl ⟨rfl, az_int 425 (by decide +kernel) rfl⟩, fun _ h => absurd h List.not_mem_nil⟩⟩
theorem az_mx_ok {c k : Nat} {b : Bool} (h : az_mx c k = some b) : az_mxp c k b := by
  unfold az_mx at h
  split at h
  · exact az_mx_0_ok _ (az_pool_in h)
  · exact az_mx_1_ok _ (az_pool_in h)
  · exact az_mx_2_ok _ (az_pool_in h)
  · exact az_mx_3_ok _ (az_pool_in h)
  · exact az_mx_5_ok _ (az_pool_in h)
  · exact az_mx_6_ok _ (az_pool_in h)
  · exact az_mx_7_ok _ (az_pool_in h)
  · exact az_mx_8_ok _ (az_pool_in h)
  · exact az_mx_10_ok _ (az_pool_in h)
  · exact az_mx_11_ok _ (az_pool_in h)
  · cases h
set_option maxRecDepth 100000 in
theorem az_mathw : (Cond.static Lib.Math.max.name ∈ az_wg ∧ Cond.code Lib.Math.max.name Lib.Math.max.code 2 (some .int) ∈ az_wg) ∧ (Cond.static Lib.Math.min.name ∈ az_wg ∧ Cond.code Lib.Math.min.name Lib.Math.min.code 2 (some .int) ∈ az_wg) ∧ Cond.initialized "java/lang/Math" ∈ az_wg := ⟨⟨az_int 416 (by decide +kernel) rfl, az_int 417 (by decide +kernel) rfl⟩, ⟨az_int 283 (by decide +kernel) rfl, az_int 284 (by decide +kernel) rfl⟩, az_int 10 (by decide +kernel) rfl⟩
def az_cl9 (ci : Nat) : String × Nat := match vwCl[ci]? with
  | some (C, _, N) => (C, N)
  | none => ("", 0)
def az_wok : Bool := az_wd.all fun kd => match kd with
  | .inl (ci, fs) => Nat.blt ci 9 && (Nat.beq fs.length (az_cl9 ci).2 && (List.range (az_cl9 ci).2).all fun j => match fs[j]? with
    | some none => !(az_T ci j).2.2.2 && (bif az_isZ ci j then decide ((az_T ci j).2.2.1 = "Z") else decide ((az_T ci j).2.2.1 = "I"))
    | _ => true)
  | .inr (t, n) => Nat.blt t 3 && Nat.blt n 2147483648
theorem az_wok_ok : az_wok = true := by decide +kernel
def az_clp (ci : Nat) : Prop := vwCl[ci]? = some (az_own ci, az_T ci, (az_cl9 ci).2) ∧ (∀ w ∈ u_ws (az_own ci) (az_T ci) (az_cl9 ci).2, w ∈ az_wg) ∧ (∃ ty : Nat → FieldType, ∀ k, k < (az_cl9 ci).2 → parseFieldDescriptor ((az_T ci) k).2.2.1 = some (ty k)) ∧ (∀ a, a < (az_cl9 ci).2 → ∀ b, b < (az_cl9 ci).2 → a ≠ b → ((az_T ci) a).2.1 ≠ ((az_T ci) b).2.1) ∧ ∀ k, k < (az_cl9 ci).2 → ((az_T ci) k).1 = az_own ci
theorem az_clp_ok : ∀ ci, ci < 9 → az_clp ci
  | 0, _ => ⟨rfl, az_inX0, ⟨_, tyX0_ok⟩, nmX0, by decide +kernel⟩
  | 1, _ => ⟨rfl, az_inX1, ⟨_, tyX1_ok⟩, nmX1, by decide +kernel⟩
  | 2, _ => ⟨rfl, az_inX2, ⟨_, tyX2_ok⟩, nmX2, by decide +kernel⟩
  | 3, _ => ⟨rfl, az_inX3, ⟨_, tyX3_ok⟩, nmX3, by decide +kernel⟩
  | 4, _ => ⟨rfl, az_inX4, ⟨_, tyX4_ok⟩, nmX4, by decide +kernel⟩
  | 5, _ => ⟨rfl, az_inX5, ⟨_, tyX5_ok⟩, nmX5, by decide +kernel⟩
  | 6, _ => ⟨rfl, az_inX6, ⟨_, tyX6_ok⟩, nmX6, by decide +kernel⟩
  | 7, _ => ⟨rfl, az_inX7, ⟨_, tyX7_ok⟩, nmX7, by decide +kernel⟩
  | 8, _ => ⟨rfl, az_inX8, ⟨_, tyX8_ok⟩, nmX8, by decide +kernel⟩
  | n + 9, h => absurd h (by omega)
end
section
/-! THE WORLD behind the abstract machine, and what never changes -/
/-- what an abstract value stands for -/
def az_cv (ad : Nat → Nat) (fo : Value) : Value → Value
  | .int x => .int x
  | .ref k => .ref (ad k)
  | .retAddr _ => fo
  | _ => .null
def az_fv (ad : Nat → Nat) (h : az_H) (k j : Nat) : Option Nat → Value
  | some r => .ref (ad r)
  | none => .int (h k j)
def az_cell (ad : Nat → Nat) (cA : Nat → ClassId) (h : az_H) (k : Nat) : az_kd → va_E
  | .inl (ci, fs) => .inr (ci, fs.mapIdx fun j o => az_fv ad h k j o)
  | .inr (t, n) => .inl (cA t, n, .inl fun j => h (az_vk k) (az_vj k j))
def az_ws (ad : Nat → Nat) (cA : Nat → ClassId) (h : az_H) : va_W := az_wd.mapIdx fun k kd => (ad k, az_cell ad cA h k kd)
theorem az_ws_at {ad : Nat → Nat} {cA : Nat → ClassId} {h : az_H} {k : Nat} {kd : az_kd} (hk : az_wd[k]? = some kd) : (az_ws ad cA h)[k]? = some (ad k, az_cell ad cA h k kd) := by
  simp [az_ws, List.getElem?_mapIdx, hk]
theorem az_ws_none {ad : Nat → Nat} {cA : Nat → ClassId} {h : az_H} {k : Nat} (hk : az_wd[k]? = none) : (az_ws ad cA h)[k]? = none := by
  simp only [az_ws, List.getElem?_mapIdx, hk, Option.map_none]
def az_wdck (k : Nat) : Bool := match az_wd[k]? with
  | some (.inl (_, fs)) => Nat.blt k 75 && Nat.blt fs.length 100
  | some (.inr _) => Nat.blt k 75 || (Nat.blt (az_vk k) 75 && (match az_wd[az_vk k]? with
    | some (.inl _) => true
    | _ => false))
  | none => false
theorem az_wd_len : az_wd.length = 78 := rfl
theorem az_wdck_all : (List.range 78).all az_wdck = true := by decide +kernel
theorem az_wdck_at {k : Nat} {kd : az_kd} (hk : az_wd[k]? = some kd) : az_wdck k = true := by
  have h1 : k < 78 := by rw [← az_wd_len]; exact (List.getElem?_eq_some_iff.mp hk).1
  exact List.all_eq_true.mp az_wdck_all k (List.mem_range.mpr h1)
theorem az_wd_obj {k ci : Nat} {fs : List (Option Nat)} (hk : az_wd[k]? = some (.inl (ci, fs))) : k < 75 ∧ fs.length < 100 := by
  have := az_wdck_at hk
  simp only [az_wdck, hk, Bool.and_eq_true, Nat.blt_eq] at this
  exact this
/-- an array lies in its own cell, or from place 100 on in an object's -/
theorem az_wd_arr {k t n : Nat} (hk : az_wd[k]? = some (.inr (t, n))) : k < 75 ∨ (75 ≤ k ∧ k < 78 ∧ ∃ ci fs, az_wd[az_vk k]? = some (.inl (ci, fs))) := by
  have := az_wdck_at hk
  have h1 : k < 78 := by rw [← az_wd_len]; exact (List.getElem?_eq_some_iff.mp hk).1
  simp only [az_wdck, hk, Bool.or_eq_true, Bool.and_eq_true, Nat.blt_eq] at this
  rcases Nat.lt_or_ge k 75 with h2 | h2
  · exact Or.inl h2
  · refine Or.inr ⟨h2, h1, ?_⟩
    rcases this with h3 | ⟨-, h3⟩
    · omega
    · cases hv : az_wd[az_vk k]? with
      | none => simp [hv] at h3
      | some kd =>
        rcases kd with ⟨ci, fs⟩ | q
        · exact ⟨ci, fs, rfl⟩
        · simp [hv] at h3
theorem az_up_at {h : az_H} {k j a i : Nat} {x : Int32} (hn : a ≠ k ∨ i ≠ j) : az_up h k j x a i = h a i := by
  unfold az_up
  split
  · rename_i e
    subst e
    rcases hn with h1 | h1
    · exact absurd rfl h1
    · simp [upd, h1]
  · rfl
theorem az_cell_eq {ad : Nat → Nat} {cA : Nat → ClassId} {h h' : az_H} {a : Nat} {kd : az_kd} (ho : ∀ ci fs, kd = .inl (ci, fs) → ∀ j, j < fs.length → h' a j = h a j) (hr : ∀ q, kd = .inr q → ∀ j, h' (az_vk a) (az_vj a j) = h (az_vk a) (az_vj a j)) : az_cell ad cA h' a kd = az_cell ad cA h a kd := by
  rcases kd with ⟨ci, fs⟩ | ⟨t, n⟩
  · show Sum.inr (ci, _) = Sum.inr (ci, _)
    congr 2
    apply List.ext_getElem?
    intro i
    simp only [List.getElem?_mapIdx]
    cases hf : fs[i]? with
    | none => rfl
    | some o =>
      have hl : i < fs.length := (List.getElem?_eq_some_iff.mp hf).1
      cases o with
      | some r => rfl
      | none => simp [az_fv, ho ci fs rfl i hl]
  · show Sum.inl (cA t, n, _) = Sum.inl (cA t, n, _)
    congr 3
    exact congrArg Sum.inl (funext fun j => hr _ rfl j)
theorem az_blt_ge {k : Nat} (hk : 75 ≤ k) : Nat.blt k 75 = false := by
  cases h : Nat.blt k 75 with
  | false => rfl
  | true => exact absurd (Nat.blt_eq.mp h) (by omega)
theorem az_vk_ge {k : Nat} (hk : 75 ≤ k) : az_vk k = 15 * (k - 75) + 1 := by rw [az_vk, az_blt_ge hk]; rfl
theorem az_vj_ge {k j : Nat} (hk : 75 ≤ k) : az_vj k j = 100 + j := by rw [az_vj, az_blt_ge hk]; rfl
theorem az_ne_obj {ad : Nat → Nat} {cA : Nat → ClassId} {h : az_H} {k j ci : Nat} {x : Int32} {fs : List (Option Nat)} (hk : az_wd[k]? = some (.inl (ci, fs))) (hj : fs[j]? = some none) : ∀ a kd', az_wd[a]? = some kd' → a ≠ k → az_cell ad cA (az_up h k j x) a kd' = az_cell ad cA h a kd' := by
  intro a kd' ha hn
  have h1 := (az_wd_obj hk).2
  have h2 : j < fs.length := (List.getElem?_eq_some_iff.mp hj).1
  refine az_cell_eq (fun ci' fs' e i hi => az_up_at (Or.inl hn)) (fun q e i => ?_)
  subst e
  obtain ⟨t, n⟩ := q
  rcases az_wd_arr ha with h3 | ⟨h3, -, -⟩
  · rw [az_vk_lt h3]
    exact az_up_at (Or.inl hn)
  · rw [az_vj_ge h3]
    exact az_up_at (Or.inr (by omega))
theorem az_ne_arr {ad : Nat → Nat} {cA : Nat → ClassId} {h : az_H} {k j t n : Nat} {x : Int32} (hk : az_wd[k]? = some (.inr (t, n))) : ∀ a kd', az_wd[a]? = some kd' → a ≠ k → az_cell ad cA (az_up h (az_vk k) (az_vj k j) x) a kd' = az_cell ad cA h a kd' := by
  intro a kd' ha hn
  rcases az_wd_arr hk with h1 | ⟨h1, h1', ci, fs, h2⟩
  · rw [az_vk_lt h1, az_vj_lt h1]
    refine az_cell_eq (fun ci' fs' e i hi => az_up_at (Or.inl hn)) (fun q e i => ?_)
    subst e
    obtain ⟨t', n'⟩ := q
    rcases az_wd_arr ha with h3 | ⟨h3, -, ci, fs, h4⟩
    · rw [az_vk_lt h3]
      exact az_up_at (Or.inl hn)
    · refine az_up_at (Or.inl fun e => ?_)
      rw [e, hk] at h4
      cases h4
  · rw [az_vj_ge h1]
    refine az_cell_eq (fun ci' fs' e i hi => ?_) (fun q e i => ?_)
    · subst e
      have := (az_wd_obj ha).2
      exact az_up_at (Or.inr (by omega))
    · subst e
      obtain ⟨t', n'⟩ := q
      rcases az_wd_arr ha with h3 | ⟨h3, h3', -⟩
      · rw [az_vk_lt h3]
        refine az_up_at (Or.inl fun e => ?_)
        rw [← e, ha] at h2
        cases h2
      · rw [az_vk_ge h1, az_vk_ge h3]
        exact az_up_at (Or.inl (by omega))
theorem az_ws_set {ad : Nat → Nat} {cA : Nat → ClassId} {h h' : az_H} {k : Nat} {kd : az_kd} {e : va_E} (hk : az_wd[k]? = some kd) (he : az_cell ad cA h' k kd = e) (hn : ∀ a kd', az_wd[a]? = some kd' → a ≠ k → az_cell ad cA h' a kd' = az_cell ad cA h a kd') : (az_ws ad cA h).set k (ad k, e) = az_ws ad cA h' := by
  subst he
  apply List.ext_getElem?
  intro a
  by_cases ha : a = k
  · subst ha
    rw [az_ws_at hk, List.getElem?_set_self]
    have := az_ws_at (ad := ad) (cA := cA) (h := h) hk
    exact (List.getElem?_eq_some_iff.mp this).1
  · rw [List.getElem?_set_ne (Ne.symm ha)]
    cases hw : az_wd[a]? with
    | none => rw [az_ws_none hw, az_ws_none hw]
    | some kd' => rw [az_ws_at hw, az_ws_at hw, hn a kd' hw ha]
theorem az_cell_obj {ad : Nat → Nat} {cA : Nat → ClassId} {h : az_H} {k j ci : Nat} {x : Int32} {fs : List (Option Nat)} (hj : fs[j]? = some none) : az_cell ad cA (az_up h k j x) k (.inl (ci, fs)) = .inr (ci, (fs.mapIdx fun j o => az_fv ad h k j o).set j (.int x)) := by
  show Sum.inr (ci, _) = Sum.inr (ci, _)
  congr 2
  apply List.ext_getElem?
  intro a
  by_cases ha : a = j
  · subst ha
    rw [List.getElem?_set_self (by rw [List.length_mapIdx]; exact (List.getElem?_eq_some_iff.mp hj).1)]
    simp [List.getElem?_mapIdx, hj, az_up, upd, az_fv]
  · rw [List.getElem?_set_ne (Ne.symm ha)]
    simp only [List.getElem?_mapIdx]
    cases fs[a]? with
    | none => rfl
    | some o => cases o <;> simp [az_up, upd, ha, az_fv]
theorem az_cell_arr {ad : Nat → Nat} {cA : Nat → ClassId} {h : az_H} {k j t n : Nat} {x : Int32} : az_cell ad cA (az_up h (az_vk k) (az_vj k j) x) k (.inr (t, n)) = .inl (cA t, n, .inl (upd (fun i => h (az_vk k) (az_vj k i)) j x)) := by
  show Sum.inl (cA t, n, _) = Sum.inl (cA t, n, _)
  congr 3
  refine congrArg Sum.inl (funext fun i => ?_)
  by_cases e : i = j
  · subst e
    simp [az_up, upd]
  · have e2 : az_vj k i ≠ az_vj k j := by
      rcases Nat.lt_or_ge k 75 with h1 | h1
      · rw [az_vj_lt h1, az_vj_lt h1]; exact e
      · rw [az_vj_ge h1, az_vj_ge h1]; omega
    rw [az_up_at (Or.inr e2)]
    simp [upd, e]
def az_tys (cA : Nat → ClassId) : List (ClassId × FieldType) := [(cA 0, .int), (cA 1, .boolean), (cA 2, .char)]
/-- the cells that a method may change -/
def az_A (ad : Nat → Nat) (sz : Nat) : Nat → Prop := fun q => (∃ k, k < 78 ∧ q = ad k) ∨ sz ≤ q
/-- what never changes: classes, nest words, the script, the texts, two statics -/
def az_X (D : va_G) (ad : Nat → Nat) (cA : Nat → ClassId) (fo : Value) (sc : az_S) (A : Nat → Prop) (U : State) (H : Heap) : Prop :=
  va_K D vwCl (az_tys cA) U ∧ (∀ w ∈ az_nest, va_Nw w U) ∧ va_X (ad 2000) sc.1 sc.2 U H ∧ (¬ A (ad 2000) ∧ ad 2000 < H.size) ∧
  vk_S 7 (az_tx.map List.length) az_tx (fun j => ad (1000 + j)) (fun j => ad (1100 + j)) A U H ∧ (∀ q ∈ az_txr, vk_R RX5 q.1 q.2.1 (ad q.2.2) U) ∧
  va_Z "java/lang/String" "COMPACT_STRINGS" "Z" (.int 1) A U H ∧ va_Z "jdk/internal/util/Preconditions" "SIOOBE_FORMATTER" "Ljava/util/function/BiFunction;" fo A U H ∧ (fo = .null ∨ ∃ t, fo = .ref t)
theorem az_nest_is : ∀ w ∈ az_nest, az_isN w = true := fun w h => (List.mem_filter.mp h).2
theorem az_Nw_warm {w : Cond} (hn : az_isN w = true) {s U : State} (hW : s.WarmedH U.vm) (h : va_Nw w s) : va_Nw w U := by
  cases w <;> first | exact va_Nw.warmF hW h | exact va_Nw.warmM hW h | (simp [az_isN] at hn; done)
theorem az_X.moved {D : va_G} {ad : Nat → Nat} {cA : Nat → ClassId} {fo : Value} {sc : az_S} {A : Nat → Prop} {s U : State} {H : Heap} (hW : s.WarmedH U.vm) (h : az_X D ad cA fo sc A s H) : az_X D ad cA fo sc A U H := by
  obtain ⟨h1, h2, h3, h4, h5, h6, h7, h8, h9⟩ := h
  exact ⟨va_K.moved hW.alike h1, fun w hw => az_Nw_warm (az_nest_is w hw) hW (h2 w hw), va_X.moved hW.alike h3, h4, vk_S.moved hW.alike h5, fun q hq => vk_R.warm hW (h6 q hq), va_Z.moved hW.alike h7, va_Z.moved hW.alike h8, h9⟩
theorem az_Nw_vm {w : Cond} (hn : az_isN w = true) {s U : State} (hv : s.vm = U.vm) (h : va_Nw w s) : va_Nw w U := by
  cases w <;> first | exact va_Nw.same rfl hv h | (simp [az_isN] at hn; done)
theorem az_X.vm {D : va_G} {ad : Nat → Nat} {cA : Nat → ClassId} {fo : Value} {sc : az_S} {A : Nat → Prop} {s U : State} {H : Heap} (hv : s.vm = U.vm) (h : az_X D ad cA fo sc A s H) : az_X D ad cA fo sc A U H := by
  obtain ⟨h1, h2, h3, h4, h5, h6, h7, h8, h9⟩ := h
  have ha : s.vm.Alike U.vm := by rw [hv]; exact Vm.Alike.refl U.vm
  exact ⟨va_K.moved ha h1, fun w hw => az_Nw_vm (az_nest_is w hw) hv (h2 w hw), va_X.moved ha h3, h4, vk_S.moved ha h5, fun q hq => vk_R.same hv.symm (h6 q hq), va_Z.moved ha h7, va_Z.moved ha h8, h9⟩
theorem az_X.kept {D : va_G} {ad : Nat → Nat} {cA : Nat → ClassId} {fo : Value} {sc : az_S} {A : Nat → Prop} {U : State} {H H1 : Heap} (h : az_X D ad cA fo sc A U H) (hz : H.size ≤ H1.size) (hq : ∀ a : Nat, a < H.size → ¬ A a → H1[a]? = H[a]?) : az_X D ad cA fo sc A U H1 := by
  obtain ⟨h1, h2, h3, h4, h5, h6, h7, h8, h9⟩ := h
  exact ⟨h1, h2, va_X.kept h3 (hq _ h4.2 h4.1), ⟨h4.1, Nat.lt_of_lt_of_le h4.2 hz⟩, vk_S.kept h5 hq, h6, va_Z.kept h7 hq, va_Z.kept h8 hq, h9⟩
theorem az_X.narrow {D : va_G} {ad : Nat → Nat} {cA : Nat → ClassId} {fo : Value} {sc : az_S} {A B : Nat → Prop} {U : State} {H : Heap} (h : az_X D ad cA fo sc A U H) (hAB : ∀ q, B q → A q) : az_X D ad cA fo sc B U H := by
  obtain ⟨h1, h2, h3, h4, h5, h6, h7, h8, h9⟩ := h
  exact ⟨h1, h2, h3, ⟨fun q => h4.1 (hAB _ q), h4.2⟩, vk_S.narrow h5 hAB, h6, va_Z.narrow h7 hAB, va_Z.narrow h8 hAB, h9⟩
/-! locals -/
def az_Mt (ad : Nat → Nat) (fo : Value) (nL : Nat) (lsA : Array Slot) (ls : List Value) : Prop := lsA.size = nL ∧ lv_wf lsA ∧ ∀ (i : Nat) (v : Value), ls[i]? = some v → (∀ z, v ≠ .long z) → lsA[i]? = some (.val (az_cv ad fo v))
theorem az_cv_cat {ad : Nat → Nat} {fo : Value} (hf : fo = .null ∨ ∃ t, fo = .ref t) (v : Value) : (az_cv ad fo v).category = 1 := by
  have : fo.category = 1 := by rcases hf with rfl | ⟨t, rfl⟩ <;> rfl
  cases v <;> first | rfl | exact this
def az_enc (ad : Nat → Nat) (fo : Value) (ls : List Value) : List (Nat × Value) := ((List.range ls.length).filterMap fun i => match (ls[i]? : Option Value) with
  | some (Value.long _) => none
  | some v => some (i, az_cv ad fo v)
  | none => (none : Option (Nat × Value)))
theorem az_enc_in {ad : Nat → Nat} {fo : Value} {ls : List Value} {i : Nat} {v : Value} (h : ls[i]? = some v) (hv : ∀ z, v ≠ .long z) : (i, az_cv ad fo v) ∈ az_enc ad fo ls := by
  refine List.mem_filterMap.mpr ⟨i, List.mem_range.mpr (List.getElem?_eq_some_iff.mp h).1, ?_⟩
  rw [h]
  cases v <;> first | rfl | exact absurd rfl (hv _)
theorem az_enc_of {ad : Nat → Nat} {fo : Value} {ls : List Value} {q : Nat × Value} (h : q ∈ az_enc ad fo ls) : ∃ v, ls[q.1]? = some v ∧ (∀ z, v ≠ .long z) ∧ q.2 = az_cv ad fo v := by
  obtain ⟨i, -, hi⟩ := List.mem_filterMap.mp h
  cases hv : ls[i]? with
  | none => simp [hv] at hi
  | some v =>
    rw [hv] at hi
    cases v <;> simp at hi <;> subst hi <;> exact ⟨_, hv, (fun z => by simp), rfl⟩
theorem az_Mt.has {ad : Nat → Nat} {fo : Value} {nL : Nat} {lsA : Array Slot} {ls : List Value} (h : az_Mt ad fo nL lsA ls) : lv_has lsA nL (az_enc ad fo ls) := by
  refine ⟨h.1, h.2.1, fun q hq => ?_⟩
  obtain ⟨v, h1, h2, h3⟩ := az_enc_of hq
  rw [h3]
  exact h.2.2 _ _ h1 h2
theorem az_set_at : ∀ (ls : List Value) (i : Nat) (v : Value) (a : Nat) (w : Value), (az_set ls i v)[a]? = some w → (a = i ∧ w = v) ∨ (a ≠ i ∧ (ls[a]? = some w ∨ w = .long 0))
  | [], 0, v, a, w, h => by
    cases a with
    | zero => simp [az_set] at h; exact Or.inl ⟨rfl, h.symm⟩
    | succ a => simp [az_set] at h
  | [], i + 1, v, a, w, h => by
    cases a with
    | zero => simp [az_set] at h; exact Or.inr ⟨by omega, Or.inr h.symm⟩
    | succ a =>
      rw [az_set, List.getElem?_cons_succ] at h
      rcases az_set_at [] i v a w h with ⟨h1, h2⟩ | ⟨h1, h2⟩
      · exact Or.inl ⟨by omega, h2⟩
      · refine Or.inr ⟨by omega, ?_⟩
        rcases h2 with h2 | h2
        · simp at h2
        · exact Or.inr h2
  | b :: l, 0, v, a, w, h => by
    cases a with
    | zero => simp [az_set] at h; exact Or.inl ⟨rfl, h.symm⟩
    | succ a => rw [az_set, List.getElem?_cons_succ] at h; exact Or.inr ⟨by omega, Or.inl (by rw [List.getElem?_cons_succ]; exact h)⟩
  | b :: l, i + 1, v, a, w, h => by
    cases a with
    | zero => simp [az_set] at h; exact Or.inr ⟨by omega, Or.inl (by simp [h])⟩
    | succ a =>
      rw [az_set, List.getElem?_cons_succ] at h
      rcases az_set_at l i v a w h with ⟨h1, h2⟩ | ⟨h1, h2⟩
      · exact Or.inl ⟨by omega, h2⟩
      · exact Or.inr ⟨by omega, by rw [List.getElem?_cons_succ]; exact h2⟩
theorem az_Mt.set {ad : Nat → Nat} {fo : Value} (hf : fo = .null ∨ ∃ t, fo = .ref t) {nL : Nat} {ls : List Value} {i : Nat} {v : Value} {ls' : Array Slot} {l' : List (Nat × Value)} (hl : (i, az_cv ad fo v) :: (az_enc ad fo ls).filter (fun q => !(q.1 == i) && !(q.1 + 1 == i && q.2.category == 2)) = l') (h : lv_has ls' nL l') : az_Mt ad fo nL ls' (az_set ls i v) := by
  subst hl
  refine ⟨h.1, h.2.1, fun a w hw hz => ?_⟩
  rcases az_set_at ls i v a w hw with ⟨rfl, rfl⟩ | ⟨h1, h2⟩
  · exact h.2.2 _ List.mem_cons_self
  · rcases h2 with h2 | h2
    · refine h.2.2 (a, az_cv ad fo w) (List.mem_cons_of_mem _ (List.mem_filter.mpr ⟨az_enc_in h2 hz, ?_⟩))
      have := az_cv_cat (ad := ad) hf w
      simp [h1, this]
    · exact absurd h2 (hz 0)
theorem az_lg {vs : List Value} (h : ∀ v ∈ vs, v.category = 1) : (lg_sl vs).length = vs.length := by
  induction vs with
  | nil => rfl
  | cons a l ih =>
    have h1 := h a List.mem_cons_self
    have h2 := ih (fun v hv => h v (List.mem_cons_of_mem _ hv))
    simp only [lg_sl, List.flatMap_cons, List.length_append] at h2 ⊢
    rw [h2, if_neg (by omega)]
    simp
    omega
theorem az_lvargs : ∀ (vs : List Value) (n i : Nat) (v : Value), (∀ v ∈ vs, v.category = 1) → vs[i]? = some v → (n + i, v) ∈ lv_args n vs
  | [], n, i, v, _, h => by simp at h
  | a :: l, n, i, v, hc, h => by
    rw [lv_args]
    cases i with
    | zero => simp at h; subst h; exact List.mem_cons_self
    | succ i =>
      rw [List.getElem?_cons_succ] at h
      have h1 : ¬ a.category = 2 := by rw [hc a List.mem_cons_self]; decide
      rw [if_neg h1]
      have := az_lvargs l (n + 1) i v (fun v hv => hc v (List.mem_cons_of_mem _ hv)) h
      rw [show n + (i + 1) = n + 1 + i by omega]
      exact List.mem_cons_of_mem _ this
theorem az_entry {ad : Nat → Nat} {fo : Value} (hf : fo = .null ∨ ∃ t, fo = .ref t) {a : List Value} {nL : Nat} (h : a.length ≤ nL) (m : MethodId) : ∃ lsA, entryFrame m (a.map (az_cv ad fo)).toArray nL = F0 m 0 lsA [] ∧ az_Mt ad fo nL lsA a := by
  have hc : ∀ v ∈ a.map (az_cv ad fo), v.category = 1 := by
    intro v hv
    obtain ⟨w, -, rfl⟩ := List.mem_map.mp hv
    exact az_cv_cat hf w
  refine ⟨_, lg_entry_eq m _ _, ?_⟩
  have hl := lv_entry (a.map (az_cv ad fo)) (n := nL) (by rw [az_lg hc, List.length_map]; exact h)
  refine ⟨hl.1, hl.2.1, fun i v hv _ => ?_⟩
  have := az_lvargs (a.map (az_cv ad fo)) 0 i (az_cv ad fo v) hc (by rw [List.getElem?_map, hv]; rfl)
  rw [Nat.zero_add] at this
  exact hl.2.2 _ this
end
section
/-! EACH STEP of the abstract machine is a step of the machine -/
def az_act (p : Program) (R : Room) (s : State) (m : MethodId) (args : Array Value) (c : Code) (M : az_M) : Prop := p.tables.exec = Jvm.exec ∧ c.code = az_by M ∧ c.maxLocals = az_nl M ∧ s.vm.findClass (az_own M.1) = some m.cls ∧ (∀ w ∈ az_wg, w.before args s = true) ∧ az_fr M ≤ R.frames ∧ az_lo M ≤ R.locals
def az_St (p : Program) (l : Launch) (e : Env) (R : Room) (s : State) (m : MethodId) (args : Array Value) (below : List Frame) (meth : Method) (c : Code) (cells slots : Nat) (Q : State → Prop) (D : va_G) (ad : Nat → Nat) (cA : Nat → ClassId) (fo : Value) (A : Nat → Prop) (nL pc : Nat) (ls st : List Value) (h : az_H) : Prop :=
  ∀ (H : Heap) (locs : List Loc) (lsA : Array Slot), va_P D vwCl (az_ws ad cA h) H → va_D A (az_ws ad cA h) → va_S A s.heap H locs → az_Mt ad fo nL lsA ls → W p l e R s m args below meth c H locs cells slots Q (F0 m pc lsA (st.map (az_cv ad fo)))
theorem az_tgt_ok {pc t : Nat} {off : Int} (h : az_tgt pc off = some t) : (pc : Int) + off = (t : Int) := by
  unfold az_tgt at h
  split at h
  · rename_i t' ht
    cases h
    exact ht
  · cases h
theorem az_jmp_ok {pc : Nat} {off : Int} {ls st : List Value} {h : az_H} {pc' : Nat} {ls' st' : List Value} {h' : az_H} (e : az_jmp pc off ls st h = some (pc', ls', st', h')) : (pc : Int) + off = (pc' : Int) ∧ ls = ls' ∧ st = st' ∧ h = h' := by
  unfold az_jmp at e
  split at e
  · rename_i t ht
    simp only [Option.some.injEq, Prod.mk.injEq] at e
    obtain ⟨rfl, rfl, rfl, rfl⟩ := e
    exact ⟨az_tgt_ok ht, rfl, rfl, rfl⟩
  · cases e
theorem az_oob_in {i : Int32} {n : Nat} (h : az_oob i n = false) : vp_in i n := by
  simp only [az_oob, Bool.or_eq_false_iff, decide_eq_false_iff_not] at h
  rintro (q | q)
  · exact h.1 q
  · rw [Nat.ble_eq_true_of_le q] at h
    exact absurd h.2 (by decide)
theorem az_getf_ok {h : az_H} {ci j k : Nat} {v : Value} (e : az_getf h ci j k = some v) : (∃ fs, az_wd[k]? = some (.inl (ci, fs)) ∧ ((∃ r, fs[j]? = some (some r) ∧ v = .ref r) ∨ (fs[j]? = some none ∧ v = .int (h k j)))) ∨ (ci = 9 ∧ (1000 ≤ k ∧ k ≤ 1006) ∧ ((j = 0 ∧ v = .ref (k + 100)) ∨ (j = 1 ∧ v = .int 0))) := by
  unfold az_getf at e
  split at e
  · rename_i c fs hw
    cases hb : Nat.beq c ci with
    | false => simp [hb] at e
    | true =>
      have := Nat.eq_of_beq_eq_true hb
      subst this
      simp only [hb, cond_true] at e
      refine Or.inl ⟨fs, hw, ?_⟩
      split at e
      · rename_i r hr
        cases e
        exact Or.inl ⟨r, hr, rfl⟩
      · rename_i hr
        cases e
        exact Or.inr ⟨hr, rfl⟩
      · cases e
  · cases e
  · cases hb : (Nat.beq ci 9 && az_isT k) with
    | false => simp [hb] at e
    | true =>
      simp only [hb, cond_true] at e
      simp only [Bool.and_eq_true, az_isT] at hb
      refine Or.inr ⟨Nat.eq_of_beq_eq_true hb.1, ⟨Nat.le_of_ble_eq_true hb.2.1, Nat.le_of_ble_eq_true hb.2.2⟩, ?_⟩
      split at e
      · cases e; exact Or.inl ⟨rfl, rfl⟩
      · cases e; exact Or.inr ⟨rfl, rfl⟩
      · cases e
theorem az_putf_ok {h h' : az_H} {ci j k : Nat} {x : Int32} (e : az_putf h ci j k x = some h') : ∃ fs, az_wd[k]? = some (.inl (ci, fs)) ∧ fs[j]? = some none ∧ h' = az_up h k j x ∧ (az_isZ ci j = true → x = 0 ∨ x = 1) := by
  unfold az_putf at e
  split at e
  · rename_i c fs hw
    cases hb : Nat.beq c ci with
    | false => simp [hb] at e
    | true =>
      have := Nat.eq_of_beq_eq_true hb
      subst this
      simp only [hb, cond_true] at e
      split at e
      · rename_i hr
        refine ⟨fs, hw, hr, ?_⟩
        cases hz : az_isZ c j with
        | true =>
          simp only [hz, cond_true] at e
          cases hx : (x == 0 || x == 1) with
          | false => simp [hx] at e
          | true =>
            simp only [hx, cond_true] at e
            cases e
            simp only [Bool.or_eq_true, beq_iff_eq] at hx
            exact ⟨rfl, fun _ => hx⟩
        | false =>
          simp only [hz, cond_false] at e
          cases e
          exact ⟨rfl, fun q => by cases q⟩
      · cases e
  · cases e
theorem az_txi {q : Nat} (h : 1000 ≤ q ∧ q ≤ 1006) : ∃ i : Nat, i < 7 ∧ q = 1000 + i ∧ q + 100 = 1100 + i := ⟨q - 1000, by omega, by omega, by omega⟩
theorem az_bxi {q : Nat} (h : 1100 ≤ q ∧ q ≤ 1106) : ∃ i : Nat, i < 7 ∧ q = 1100 + i ∧ q - 1100 = i := ⟨q - 1100, by omega, by omega, by omega⟩
theorem az_tlen_eq (i : Nat) : (az_tx.map List.length).getD i 0 = az_tl i := by
  rw [az_tl, List.getD_eq_getElem?_getD, List.getD_eq_getElem?_getD, List.getElem?_map]
  cases az_tx[i]? <;> rfl
theorem az_wok_obj {k ci : Nat} {fs : List (Option Nat)} (hk : az_wd[k]? = some (.inl (ci, fs))) : ci < 9 ∧ fs.length = (az_cl9 ci).2 ∧ ∀ j, fs[j]? = some none → (az_T ci j).2.2.2 = false ∧ ((az_isZ ci j = true ∧ (az_T ci j).2.2.1 = "Z") ∨ (az_isZ ci j = false ∧ (az_T ci j).2.2.1 = "I")) := by
  have h := List.all_eq_true.mp az_wok_ok _ (List.mem_of_getElem? hk)
  simp only [Bool.and_eq_true] at h
  obtain ⟨h1, h2, h3⟩ := h
  have h2' := Nat.eq_of_beq_eq_true h2
  refine ⟨Nat.le_of_ble_eq_true h1, h2', fun j hj => ?_⟩
  have hlt : j < (az_cl9 ci).2 := by rw [← h2']; exact (List.getElem?_eq_some_iff.mp hj).1
  have h4 := List.all_eq_true.mp h3 j (List.mem_range.mpr hlt)
  rw [hj] at h4
  simp only [Bool.and_eq_true, Bool.not_eq_true'] at h4
  refine ⟨h4.1, ?_⟩
  cases hz : az_isZ ci j with
  | true => rw [hz] at h4; exact Or.inl ⟨rfl, of_decide_eq_true h4.2⟩
  | false => rw [hz] at h4; exact Or.inr ⟨rfl, of_decide_eq_true h4.2⟩
theorem az_wok_arr {k t n : Nat} (hk : az_wd[k]? = some (.inr (t, n))) : t < 3 ∧ n < 2147483648 := by
  have h := List.all_eq_true.mp az_wok_ok _ (List.mem_of_getElem? hk)
  simp only [Bool.and_eq_true] at h
  exact ⟨Nat.le_of_ble_eq_true h.1, Nat.le_of_ble_eq_true h.2⟩
theorem az_tys_at {cA : Nat → ClassId} {t : Nat} (ht : t < 3) : (az_tys cA)[t]? = some (cA t, az_fty t) := by
  rcases (show t = 0 ∨ t = 1 ∨ t = 2 by omega) with rfl | rfl | rfl <;> rfl
def az_nn : Cond → Bool
  | .fieldLinkNest _ _ r _ _ _ => decide (r ≠ "java/lang/String")
  | _ => true
theorem az_noN : az_nest.all az_nn = true := by decide +kernel
theorem az_noN9 {a n d host : String} {k : Nat} : ¬ Cond.fieldLinkNest a k "java/lang/String" n d host ∈ az_nest := fun h => by
  have := List.all_eq_true.mp az_noN _ h
  simp [az_nn] at this
section AZP
variable {p : Program} {l : Launch} {e : Env} {R : Room} {s : State} {m : MethodId} {args : Array Value} {below : List Frame} {meth : Method} {c : Code} {cells slots : Nat} {Q : State → Prop} {D : va_G} {ad : Nat → Nat} {cA : Nat → ClassId} {fo : Value} {sc : az_S} {A : Nat → Prop} {M : az_M} {n pc pc' : Nat} {ls ls' st st' : List Value} {h h' : az_H}
theorem az_st_iload_n {i : Fin 4} (act : az_act p R s m args c M) (hX : az_X D ad cA fo sc A s s.heap) (hcr : cells ≤ R.cells ∧ slots ≤ R.slots) (hdg : decode (az_by M) pc = .ok (.iload_n i, n)) (hin : az_insok pc (.iload_n i) n = true) (hro : az_room M (.iload_n i) = true) (hcal : az_cal M (.iload_n i) = none) (hst : az_stp sc M (.iload_n i) n pc ls st h = some (pc', ls', st', h')) (K : az_St p l e R s m args below meth c cells slots Q D ad cA fo A (az_nl M) pc' ls' st' h') : az_St p l e R s m args below meth c cells slots Q D ad cA fo A (az_nl M) pc ls st h := by
  intro H locs lsA hP hD hS hM
  obtain ⟨hx, hb, hml, hown, hts, hfr, hlo⟩ := act
  simp only [az_stp, az_ldi] at hst
  split at hst
  · rename_i x hx'
    simp only [Option.some.injEq, Prod.mk.injEq] at hst
    obtain ⟨rfl, rfl, rfl, rfl⟩ := hst
    have hv := hM.2.2 _ _ hx' (fun z => by simp)
    obtain rfl : n = 1 := Nat.eq_of_beq_eq_true hin
    exact lv_iload_n hx hb hdg rfl hv (K H locs lsA hP hD hS hM)
  · cases hst
theorem az_st_iload {i : Nat} (act : az_act p R s m args c M) (hX : az_X D ad cA fo sc A s s.heap) (hcr : cells ≤ R.cells ∧ slots ≤ R.slots) (hdg : decode (az_by M) pc = .ok (.iload i, n)) (hin : az_insok pc (.iload i) n = true) (hro : az_room M (.iload i) = true) (hcal : az_cal M (.iload i) = none) (hst : az_stp sc M (.iload i) n pc ls st h = some (pc', ls', st', h')) (K : az_St p l e R s m args below meth c cells slots Q D ad cA fo A (az_nl M) pc' ls' st' h') : az_St p l e R s m args below meth c cells slots Q D ad cA fo A (az_nl M) pc ls st h := by
  intro H locs lsA hP hD hS hM
  obtain ⟨hx, hb, hml, hown, hts, hfr, hlo⟩ := act
  simp only [az_stp, az_ldi] at hst
  split at hst
  · rename_i x hx'
    simp only [Option.some.injEq, Prod.mk.injEq] at hst
    obtain ⟨rfl, rfl, rfl, rfl⟩ := hst
    have hv := hM.2.2 _ _ hx' (fun z => by simp)
    obtain rfl : n = 2 := Nat.eq_of_beq_eq_true hin
    exact lv_iload hx hb hdg hv (K H locs lsA hP hD hS hM)
  · cases hst
theorem az_st_aload_n {i : Fin 4} (act : az_act p R s m args c M) (hX : az_X D ad cA fo sc A s s.heap) (hcr : cells ≤ R.cells ∧ slots ≤ R.slots) (hdg : decode (az_by M) pc = .ok (.aload_n i, n)) (hin : az_insok pc (.aload_n i) n = true) (hro : az_room M (.aload_n i) = true) (hcal : az_cal M (.aload_n i) = none) (hst : az_stp sc M (.aload_n i) n pc ls st h = some (pc', ls', st', h')) (K : az_St p l e R s m args below meth c cells slots Q D ad cA fo A (az_nl M) pc' ls' st' h') : az_St p l e R s m args below meth c cells slots Q D ad cA fo A (az_nl M) pc ls st h := by
  intro H locs lsA hP hD hS hM
  obtain ⟨hx, hb, hml, hown, hts, hfr, hlo⟩ := act
  simp only [az_stp, az_ldr] at hst
  split at hst
  · rename_i x hx'
    simp only [Option.some.injEq, Prod.mk.injEq] at hst
    obtain ⟨rfl, rfl, rfl, rfl⟩ := hst
    have hv := hM.2.2 _ _ hx' (fun z => by simp)
    obtain rfl : n = 1 := Nat.eq_of_beq_eq_true hin
    exact lv_aload_n hx hb hdg rfl hv (K H locs lsA hP hD hS hM)
  · cases hst
theorem az_st_aload {i : Nat} (act : az_act p R s m args c M) (hX : az_X D ad cA fo sc A s s.heap) (hcr : cells ≤ R.cells ∧ slots ≤ R.slots) (hdg : decode (az_by M) pc = .ok (.aload i, n)) (hin : az_insok pc (.aload i) n = true) (hro : az_room M (.aload i) = true) (hcal : az_cal M (.aload i) = none) (hst : az_stp sc M (.aload i) n pc ls st h = some (pc', ls', st', h')) (K : az_St p l e R s m args below meth c cells slots Q D ad cA fo A (az_nl M) pc' ls' st' h') : az_St p l e R s m args below meth c cells slots Q D ad cA fo A (az_nl M) pc ls st h := by
  intro H locs lsA hP hD hS hM
  obtain ⟨hx, hb, hml, hown, hts, hfr, hlo⟩ := act
  simp only [az_stp, az_ldr] at hst
  split at hst
  · rename_i x hx'
    simp only [Option.some.injEq, Prod.mk.injEq] at hst
    obtain ⟨rfl, rfl, rfl, rfl⟩ := hst
    have hv := hM.2.2 _ _ hx' (fun z => by simp)
    obtain rfl : n = 2 := Nat.eq_of_beq_eq_true hin
    exact lv_aload hx hb hdg hv (K H locs lsA hP hD hS hM)
  · cases hst
theorem az_st_istore_n {i : Fin 4} (act : az_act p R s m args c M) (hX : az_X D ad cA fo sc A s s.heap) (hcr : cells ≤ R.cells ∧ slots ≤ R.slots) (hdg : decode (az_by M) pc = .ok (.istore_n i, n)) (hin : az_insok pc (.istore_n i) n = true) (hro : az_room M (.istore_n i) = true) (hcal : az_cal M (.istore_n i) = none) (hst : az_stp sc M (.istore_n i) n pc ls st h = some (pc', ls', st', h')) (K : az_St p l e R s m args below meth c cells slots Q D ad cA fo A (az_nl M) pc' ls' st' h') : az_St p l e R s m args below meth c cells slots Q D ad cA fo A (az_nl M) pc ls st h := by
  intro H locs lsA hP hD hS hM
  obtain ⟨hx, hb, hml, hown, hts, hfr, hlo⟩ := act
  simp only [az_stp] at hst
  split at hst
  · cases hlt : Nat.blt i.val (az_nl M) with
    | false => simp [hlt] at hst
    | true =>
      simp only [hlt, cond_true, Option.some.injEq, Prod.mk.injEq] at hst
      obtain ⟨rfl, rfl, rfl, rfl⟩ := hst
      obtain rfl : n = 1 := Nat.eq_of_beq_eq_true hin
      exact lv_istore_n hx hb hdg rfl (az_Mt.has hM) (Nat.le_of_ble_eq_true hlt) rfl (fun ls9 h9 => K H locs ls9 hP hD hS (az_Mt.set hX.2.2.2.2.2.2.2.2 rfl h9))
  · cases hst
theorem az_st_istore {i : Nat} (act : az_act p R s m args c M) (hX : az_X D ad cA fo sc A s s.heap) (hcr : cells ≤ R.cells ∧ slots ≤ R.slots) (hdg : decode (az_by M) pc = .ok (.istore i, n)) (hin : az_insok pc (.istore i) n = true) (hro : az_room M (.istore i) = true) (hcal : az_cal M (.istore i) = none) (hst : az_stp sc M (.istore i) n pc ls st h = some (pc', ls', st', h')) (K : az_St p l e R s m args below meth c cells slots Q D ad cA fo A (az_nl M) pc' ls' st' h') : az_St p l e R s m args below meth c cells slots Q D ad cA fo A (az_nl M) pc ls st h := by
  intro H locs lsA hP hD hS hM
  obtain ⟨hx, hb, hml, hown, hts, hfr, hlo⟩ := act
  simp only [az_stp] at hst
  split at hst
  · cases hlt : Nat.blt i (az_nl M) with
    | false => simp [hlt] at hst
    | true =>
      simp only [hlt, cond_true, Option.some.injEq, Prod.mk.injEq] at hst
      obtain ⟨rfl, rfl, rfl, rfl⟩ := hst
      obtain rfl : n = 2 := Nat.eq_of_beq_eq_true hin
      exact lv_istore hx hb hdg (az_Mt.has hM) (Nat.le_of_ble_eq_true hlt) rfl (fun ls9 h9 => K H locs ls9 hP hD hS (az_Mt.set hX.2.2.2.2.2.2.2.2 rfl h9))
  · cases hst
theorem az_st_astore_n {i : Fin 4} (act : az_act p R s m args c M) (hX : az_X D ad cA fo sc A s s.heap) (hcr : cells ≤ R.cells ∧ slots ≤ R.slots) (hdg : decode (az_by M) pc = .ok (.astore_n i, n)) (hin : az_insok pc (.astore_n i) n = true) (hro : az_room M (.astore_n i) = true) (hcal : az_cal M (.astore_n i) = none) (hst : az_stp sc M (.astore_n i) n pc ls st h = some (pc', ls', st', h')) (K : az_St p l e R s m args below meth c cells slots Q D ad cA fo A (az_nl M) pc' ls' st' h') : az_St p l e R s m args below meth c cells slots Q D ad cA fo A (az_nl M) pc ls st h := by
  intro H locs lsA hP hD hS hM
  obtain ⟨hx, hb, hml, hown, hts, hfr, hlo⟩ := act
  simp only [az_stp] at hst
  split at hst
  · cases hlt : Nat.blt i.val (az_nl M) with
    | false => simp [hlt] at hst
    | true =>
      simp only [hlt, cond_true, Option.some.injEq, Prod.mk.injEq] at hst
      obtain ⟨rfl, rfl, rfl, rfl⟩ := hst
      obtain rfl : n = 1 := Nat.eq_of_beq_eq_true hin
      exact lv_astore_n hx hb hdg rfl (az_Mt.has hM) (Nat.le_of_ble_eq_true hlt) rfl (fun ls9 h9 => K H locs ls9 hP hD hS (az_Mt.set hX.2.2.2.2.2.2.2.2 rfl h9))
  · cases hst
theorem az_st_iinc {i : Nat} {k : Int} (act : az_act p R s m args c M) (hX : az_X D ad cA fo sc A s s.heap) (hcr : cells ≤ R.cells ∧ slots ≤ R.slots) (hdg : decode (az_by M) pc = .ok (.iinc i k, n)) (hin : az_insok pc (.iinc i k) n = true) (hro : az_room M (.iinc i k) = true) (hcal : az_cal M (.iinc i k) = none) (hst : az_stp sc M (.iinc i k) n pc ls st h = some (pc', ls', st', h')) (K : az_St p l e R s m args below meth c cells slots Q D ad cA fo A (az_nl M) pc' ls' st' h') : az_St p l e R s m args below meth c cells slots Q D ad cA fo A (az_nl M) pc ls st h := by
  intro H locs lsA hP hD hS hM
  obtain ⟨hx, hb, hml, hown, hts, hfr, hlo⟩ := act
  simp only [az_stp] at hst
  split at hst
  · rename_i x hx'
    cases hlt : Nat.blt i (az_nl M) with
    | false => simp [hlt] at hst
    | true =>
      simp only [hlt, cond_true, Option.some.injEq, Prod.mk.injEq] at hst
      obtain ⟨rfl, rfl, rfl, rfl⟩ := hst
      obtain rfl : n = 3 := Nat.eq_of_beq_eq_true hin
      obtain ⟨k9, hk9⟩ := List.getElem?_of_mem (az_enc_in (ad := ad) (fo := fo) hx' (fun z => by simp))
      exact lv_iinc hx hb hdg (az_Mt.has hM) hk9 rfl (Nat.le_of_ble_eq_true hlt) rfl (fun ls9 h9 => K H locs ls9 hP hD hS (az_Mt.set hX.2.2.2.2.2.2.2.2 (v := .int (x + Int32.ofInt k)) rfl h9))
  · cases hst
theorem az_st_iconst {i : Int} (act : az_act p R s m args c M) (hX : az_X D ad cA fo sc A s s.heap) (hcr : cells ≤ R.cells ∧ slots ≤ R.slots) (hdg : decode (az_by M) pc = .ok (.iconst i, n)) (hin : az_insok pc (.iconst i) n = true) (hro : az_room M (.iconst i) = true) (hcal : az_cal M (.iconst i) = none) (hst : az_stp sc M (.iconst i) n pc ls st h = some (pc', ls', st', h')) (K : az_St p l e R s m args below meth c cells slots Q D ad cA fo A (az_nl M) pc' ls' st' h') : az_St p l e R s m args below meth c cells slots Q D ad cA fo A (az_nl M) pc ls st h := by
  intro H locs lsA hP hD hS hM
  obtain ⟨hx, hb, hml, hown, hts, hfr, hlo⟩ := act
  simp only [az_stp, Option.some.injEq, Prod.mk.injEq] at hst
  obtain ⟨rfl, rfl, rfl, rfl⟩ := hst
  obtain rfl : n = 1 := Nat.eq_of_beq_eq_true hin
  exact lv_iconst hx hb hdg rfl (K H locs lsA hP hD hS hM)
theorem az_st_bipush {i : Int} (act : az_act p R s m args c M) (hX : az_X D ad cA fo sc A s s.heap) (hcr : cells ≤ R.cells ∧ slots ≤ R.slots) (hdg : decode (az_by M) pc = .ok (.bipush i, n)) (hin : az_insok pc (.bipush i) n = true) (hro : az_room M (.bipush i) = true) (hcal : az_cal M (.bipush i) = none) (hst : az_stp sc M (.bipush i) n pc ls st h = some (pc', ls', st', h')) (K : az_St p l e R s m args below meth c cells slots Q D ad cA fo A (az_nl M) pc' ls' st' h') : az_St p l e R s m args below meth c cells slots Q D ad cA fo A (az_nl M) pc ls st h := by
  intro H locs lsA hP hD hS hM
  obtain ⟨hx, hb, hml, hown, hts, hfr, hlo⟩ := act
  simp only [az_stp, Option.some.injEq, Prod.mk.injEq] at hst
  obtain ⟨rfl, rfl, rfl, rfl⟩ := hst
  obtain rfl : n = 2 := Nat.eq_of_beq_eq_true hin
  exact lv_bipush hx hb hdg rfl (K H locs lsA hP hD hS hM)
theorem az_st_sipush {i : Int} (act : az_act p R s m args c M) (hX : az_X D ad cA fo sc A s s.heap) (hcr : cells ≤ R.cells ∧ slots ≤ R.slots) (hdg : decode (az_by M) pc = .ok (.sipush i, n)) (hin : az_insok pc (.sipush i) n = true) (hro : az_room M (.sipush i) = true) (hcal : az_cal M (.sipush i) = none) (hst : az_stp sc M (.sipush i) n pc ls st h = some (pc', ls', st', h')) (K : az_St p l e R s m args below meth c cells slots Q D ad cA fo A (az_nl M) pc' ls' st' h') : az_St p l e R s m args below meth c cells slots Q D ad cA fo A (az_nl M) pc ls st h := by
  intro H locs lsA hP hD hS hM
  obtain ⟨hx, hb, hml, hown, hts, hfr, hlo⟩ := act
  simp only [az_stp, Option.some.injEq, Prod.mk.injEq] at hst
  obtain ⟨rfl, rfl, rfl, rfl⟩ := hst
  obtain rfl : n = 3 := Nat.eq_of_beq_eq_true hin
  exact lv_sipush hx hb hdg rfl (K H locs lsA hP hD hS hM)
theorem az_st_ldc {k : Nat} (act : az_act p R s m args c M) (hX : az_X D ad cA fo sc A s s.heap) (hcr : cells ≤ R.cells ∧ slots ≤ R.slots) (hdg : decode (az_by M) pc = .ok (.ldc k, n)) (hin : az_insok pc (.ldc k) n = true) (hro : az_room M (.ldc k) = true) (hcal : az_cal M (.ldc k) = none) (hst : az_stp sc M (.ldc k) n pc ls st h = some (pc', ls', st', h')) (K : az_St p l e R s m args below meth c cells slots Q D ad cA fo A (az_nl M) pc' ls' st' h') : az_St p l e R s m args below meth c cells slots Q D ad cA fo A (az_nl M) pc ls st h := by
  intro H locs lsA hP hD hS hM
  obtain ⟨hx, hb, hml, hown, hts, hfr, hlo⟩ := act
  simp only [az_stp] at hst
  split at hst
  · rename_i v hv
    simp only [Option.some.injEq, Prod.mk.injEq] at hst
    obtain ⟨rfl, rfl, rfl, rfl⟩ := hst
    obtain rfl : n = 2 := Nat.eq_of_beq_eq_true hin
    rcases az_ld_ok hv with ⟨x, rfl, hw⟩ | ⟨hc5, tx, a, rfl, hq⟩
    · exact lv_ldc hx hb hown (hts _ hw) hdg (K H locs lsA hP hD hS hM)
    · rw [hc5] at hown
      exact va_ldcS hx hb (own := RX5) hown (hX.2.2.2.2.2.1 _ hq) hdg (K H locs lsA hP hD hS hM)
  · cases hst
theorem az_st_iadd (act : az_act p R s m args c M) (hX : az_X D ad cA fo sc A s s.heap) (hcr : cells ≤ R.cells ∧ slots ≤ R.slots) (hdg : decode (az_by M) pc = .ok (.iadd, n)) (hin : az_insok pc (.iadd) n = true) (hro : az_room M (.iadd) = true) (hcal : az_cal M (.iadd) = none) (hst : az_stp sc M (.iadd) n pc ls st h = some (pc', ls', st', h')) (K : az_St p l e R s m args below meth c cells slots Q D ad cA fo A (az_nl M) pc' ls' st' h') : az_St p l e R s m args below meth c cells slots Q D ad cA fo A (az_nl M) pc ls st h := by
  intro H locs lsA hP hD hS hM
  obtain ⟨hx, hb, hml, hown, hts, hfr, hlo⟩ := act
  simp only [az_stp] at hst
  split at hst
  · simp only [Option.some.injEq, Prod.mk.injEq] at hst
    obtain ⟨rfl, rfl, rfl, rfl⟩ := hst
    obtain rfl : n = 1 := Nat.eq_of_beq_eq_true hin
    exact lv_iadd hx hb hdg (K H locs lsA hP hD hS hM)
  · cases hst
theorem az_st_isub (act : az_act p R s m args c M) (hX : az_X D ad cA fo sc A s s.heap) (hcr : cells ≤ R.cells ∧ slots ≤ R.slots) (hdg : decode (az_by M) pc = .ok (.isub, n)) (hin : az_insok pc (.isub) n = true) (hro : az_room M (.isub) = true) (hcal : az_cal M (.isub) = none) (hst : az_stp sc M (.isub) n pc ls st h = some (pc', ls', st', h')) (K : az_St p l e R s m args below meth c cells slots Q D ad cA fo A (az_nl M) pc' ls' st' h') : az_St p l e R s m args below meth c cells slots Q D ad cA fo A (az_nl M) pc ls st h := by
  intro H locs lsA hP hD hS hM
  obtain ⟨hx, hb, hml, hown, hts, hfr, hlo⟩ := act
  simp only [az_stp] at hst
  split at hst
  · simp only [Option.some.injEq, Prod.mk.injEq] at hst
    obtain ⟨rfl, rfl, rfl, rfl⟩ := hst
    obtain rfl : n = 1 := Nat.eq_of_beq_eq_true hin
    exact lv_isub hx hb hdg (K H locs lsA hP hD hS hM)
  · cases hst
theorem az_st_imul (act : az_act p R s m args c M) (hX : az_X D ad cA fo sc A s s.heap) (hcr : cells ≤ R.cells ∧ slots ≤ R.slots) (hdg : decode (az_by M) pc = .ok (.imul, n)) (hin : az_insok pc (.imul) n = true) (hro : az_room M (.imul) = true) (hcal : az_cal M (.imul) = none) (hst : az_stp sc M (.imul) n pc ls st h = some (pc', ls', st', h')) (K : az_St p l e R s m args below meth c cells slots Q D ad cA fo A (az_nl M) pc' ls' st' h') : az_St p l e R s m args below meth c cells slots Q D ad cA fo A (az_nl M) pc ls st h := by
  intro H locs lsA hP hD hS hM
  obtain ⟨hx, hb, hml, hown, hts, hfr, hlo⟩ := act
  simp only [az_stp] at hst
  split at hst
  · simp only [Option.some.injEq, Prod.mk.injEq] at hst
    obtain ⟨rfl, rfl, rfl, rfl⟩ := hst
    obtain rfl : n = 1 := Nat.eq_of_beq_eq_true hin
    exact lv_imul hx hb hdg (K H locs lsA hP hD hS hM)
  · cases hst
theorem az_st_iand (act : az_act p R s m args c M) (hX : az_X D ad cA fo sc A s s.heap) (hcr : cells ≤ R.cells ∧ slots ≤ R.slots) (hdg : decode (az_by M) pc = .ok (.iand, n)) (hin : az_insok pc (.iand) n = true) (hro : az_room M (.iand) = true) (hcal : az_cal M (.iand) = none) (hst : az_stp sc M (.iand) n pc ls st h = some (pc', ls', st', h')) (K : az_St p l e R s m args below meth c cells slots Q D ad cA fo A (az_nl M) pc' ls' st' h') : az_St p l e R s m args below meth c cells slots Q D ad cA fo A (az_nl M) pc ls st h := by
  intro H locs lsA hP hD hS hM
  obtain ⟨hx, hb, hml, hown, hts, hfr, hlo⟩ := act
  simp only [az_stp] at hst
  split at hst
  · simp only [Option.some.injEq, Prod.mk.injEq] at hst
    obtain ⟨rfl, rfl, rfl, rfl⟩ := hst
    obtain rfl : n = 1 := Nat.eq_of_beq_eq_true hin
    exact lv_iand hx hb hdg (K H locs lsA hP hD hS hM)
  · cases hst
theorem az_st_ior (act : az_act p R s m args c M) (hX : az_X D ad cA fo sc A s s.heap) (hcr : cells ≤ R.cells ∧ slots ≤ R.slots) (hdg : decode (az_by M) pc = .ok (.ior, n)) (hin : az_insok pc (.ior) n = true) (hro : az_room M (.ior) = true) (hcal : az_cal M (.ior) = none) (hst : az_stp sc M (.ior) n pc ls st h = some (pc', ls', st', h')) (K : az_St p l e R s m args below meth c cells slots Q D ad cA fo A (az_nl M) pc' ls' st' h') : az_St p l e R s m args below meth c cells slots Q D ad cA fo A (az_nl M) pc ls st h := by
  intro H locs lsA hP hD hS hM
  obtain ⟨hx, hb, hml, hown, hts, hfr, hlo⟩ := act
  simp only [az_stp] at hst
  split at hst
  · simp only [Option.some.injEq, Prod.mk.injEq] at hst
    obtain ⟨rfl, rfl, rfl, rfl⟩ := hst
    obtain rfl : n = 1 := Nat.eq_of_beq_eq_true hin
    exact lv_ior hx hb hdg (K H locs lsA hP hD hS hM)
  · cases hst
theorem az_st_ishl (act : az_act p R s m args c M) (hX : az_X D ad cA fo sc A s s.heap) (hcr : cells ≤ R.cells ∧ slots ≤ R.slots) (hdg : decode (az_by M) pc = .ok (.ishl, n)) (hin : az_insok pc (.ishl) n = true) (hro : az_room M (.ishl) = true) (hcal : az_cal M (.ishl) = none) (hst : az_stp sc M (.ishl) n pc ls st h = some (pc', ls', st', h')) (K : az_St p l e R s m args below meth c cells slots Q D ad cA fo A (az_nl M) pc' ls' st' h') : az_St p l e R s m args below meth c cells slots Q D ad cA fo A (az_nl M) pc ls st h := by
  intro H locs lsA hP hD hS hM
  obtain ⟨hx, hb, hml, hown, hts, hfr, hlo⟩ := act
  simp only [az_stp] at hst
  split at hst
  · simp only [Option.some.injEq, Prod.mk.injEq] at hst
    obtain ⟨rfl, rfl, rfl, rfl⟩ := hst
    obtain rfl : n = 1 := Nat.eq_of_beq_eq_true hin
    exact lv_ishl hx hb hdg (K H locs lsA hP hD hS hM)
  · cases hst
theorem az_st_ishr (act : az_act p R s m args c M) (hX : az_X D ad cA fo sc A s s.heap) (hcr : cells ≤ R.cells ∧ slots ≤ R.slots) (hdg : decode (az_by M) pc = .ok (.ishr, n)) (hin : az_insok pc (.ishr) n = true) (hro : az_room M (.ishr) = true) (hcal : az_cal M (.ishr) = none) (hst : az_stp sc M (.ishr) n pc ls st h = some (pc', ls', st', h')) (K : az_St p l e R s m args below meth c cells slots Q D ad cA fo A (az_nl M) pc' ls' st' h') : az_St p l e R s m args below meth c cells slots Q D ad cA fo A (az_nl M) pc ls st h := by
  intro H locs lsA hP hD hS hM
  obtain ⟨hx, hb, hml, hown, hts, hfr, hlo⟩ := act
  simp only [az_stp] at hst
  split at hst
  · simp only [Option.some.injEq, Prod.mk.injEq] at hst
    obtain ⟨rfl, rfl, rfl, rfl⟩ := hst
    obtain rfl : n = 1 := Nat.eq_of_beq_eq_true hin
    exact lv_ishr hx hb hdg (K H locs lsA hP hD hS hM)
  · cases hst
theorem az_st_ineg (act : az_act p R s m args c M) (hX : az_X D ad cA fo sc A s s.heap) (hcr : cells ≤ R.cells ∧ slots ≤ R.slots) (hdg : decode (az_by M) pc = .ok (.ineg, n)) (hin : az_insok pc (.ineg) n = true) (hro : az_room M (.ineg) = true) (hcal : az_cal M (.ineg) = none) (hst : az_stp sc M (.ineg) n pc ls st h = some (pc', ls', st', h')) (K : az_St p l e R s m args below meth c cells slots Q D ad cA fo A (az_nl M) pc' ls' st' h') : az_St p l e R s m args below meth c cells slots Q D ad cA fo A (az_nl M) pc ls st h := by
  intro H locs lsA hP hD hS hM
  obtain ⟨hx, hb, hml, hown, hts, hfr, hlo⟩ := act
  simp only [az_stp] at hst
  split at hst
  · simp only [Option.some.injEq, Prod.mk.injEq] at hst
    obtain ⟨rfl, rfl, rfl, rfl⟩ := hst
    obtain rfl : n = 1 := Nat.eq_of_beq_eq_true hin
    exact lv_ineg hx hb hdg (K H locs lsA hP hD hS hM)
  · cases hst
theorem az_st_i2c (act : az_act p R s m args c M) (hX : az_X D ad cA fo sc A s s.heap) (hcr : cells ≤ R.cells ∧ slots ≤ R.slots) (hdg : decode (az_by M) pc = .ok (.i2c, n)) (hin : az_insok pc (.i2c) n = true) (hro : az_room M (.i2c) = true) (hcal : az_cal M (.i2c) = none) (hst : az_stp sc M (.i2c) n pc ls st h = some (pc', ls', st', h')) (K : az_St p l e R s m args below meth c cells slots Q D ad cA fo A (az_nl M) pc' ls' st' h') : az_St p l e R s m args below meth c cells slots Q D ad cA fo A (az_nl M) pc ls st h := by
  intro H locs lsA hP hD hS hM
  obtain ⟨hx, hb, hml, hown, hts, hfr, hlo⟩ := act
  simp only [az_stp] at hst
  split at hst
  · simp only [Option.some.injEq, Prod.mk.injEq] at hst
    obtain ⟨rfl, rfl, rfl, rfl⟩ := hst
    obtain rfl : n = 1 := Nat.eq_of_beq_eq_true hin
    exact lv_i2c hx hb hdg rfl (K H locs lsA hP hD hS hM)
  · cases hst
theorem az_st_i2b (act : az_act p R s m args c M) (hX : az_X D ad cA fo sc A s s.heap) (hcr : cells ≤ R.cells ∧ slots ≤ R.slots) (hdg : decode (az_by M) pc = .ok (.i2b, n)) (hin : az_insok pc (.i2b) n = true) (hro : az_room M (.i2b) = true) (hcal : az_cal M (.i2b) = none) (hst : az_stp sc M (.i2b) n pc ls st h = some (pc', ls', st', h')) (K : az_St p l e R s m args below meth c cells slots Q D ad cA fo A (az_nl M) pc' ls' st' h') : az_St p l e R s m args below meth c cells slots Q D ad cA fo A (az_nl M) pc ls st h := by
  intro H locs lsA hP hD hS hM
  obtain ⟨hx, hb, hml, hown, hts, hfr, hlo⟩ := act
  simp only [az_stp] at hst
  split at hst
  · simp only [Option.some.injEq, Prod.mk.injEq] at hst
    obtain ⟨rfl, rfl, rfl, rfl⟩ := hst
    obtain rfl : n = 1 := Nat.eq_of_beq_eq_true hin
    exact lv_i2b hx hb hdg rfl (K H locs lsA hP hD hS hM)
  · cases hst
theorem az_st_idiv (act : az_act p R s m args c M) (hX : az_X D ad cA fo sc A s s.heap) (hcr : cells ≤ R.cells ∧ slots ≤ R.slots) (hdg : decode (az_by M) pc = .ok (.idiv, n)) (hin : az_insok pc (.idiv) n = true) (hro : az_room M (.idiv) = true) (hcal : az_cal M (.idiv) = none) (hst : az_stp sc M (.idiv) n pc ls st h = some (pc', ls', st', h')) (K : az_St p l e R s m args below meth c cells slots Q D ad cA fo A (az_nl M) pc' ls' st' h') : az_St p l e R s m args below meth c cells slots Q D ad cA fo A (az_nl M) pc ls st h := by
  intro H locs lsA hP hD hS hM
  obtain ⟨hx, hb, hml, hown, hts, hfr, hlo⟩ := act
  simp only [az_stp] at hst
  split at hst
  · rename_i y x r
    by_cases hy : y = 0
    · simp [hy] at hst
    · simp only [hy, decide_false, cond_false, Option.some.injEq, Prod.mk.injEq] at hst
      obtain ⟨rfl, rfl, rfl, rfl⟩ := hst
      obtain rfl : n = 1 := Nat.eq_of_beq_eq_true hin
      exact lv_idiv hx hb hdg hy (K H locs lsA hP hD hS hM)
  · cases hst
theorem az_st_irem (act : az_act p R s m args c M) (hX : az_X D ad cA fo sc A s s.heap) (hcr : cells ≤ R.cells ∧ slots ≤ R.slots) (hdg : decode (az_by M) pc = .ok (.irem, n)) (hin : az_insok pc (.irem) n = true) (hro : az_room M (.irem) = true) (hcal : az_cal M (.irem) = none) (hst : az_stp sc M (.irem) n pc ls st h = some (pc', ls', st', h')) (K : az_St p l e R s m args below meth c cells slots Q D ad cA fo A (az_nl M) pc' ls' st' h') : az_St p l e R s m args below meth c cells slots Q D ad cA fo A (az_nl M) pc ls st h := by
  intro H locs lsA hP hD hS hM
  obtain ⟨hx, hb, hml, hown, hts, hfr, hlo⟩ := act
  simp only [az_stp] at hst
  split at hst
  · rename_i y x r
    by_cases hy : y = 0
    · simp [hy] at hst
    · simp only [hy, decide_false, cond_false, Option.some.injEq, Prod.mk.injEq] at hst
      obtain ⟨rfl, rfl, rfl, rfl⟩ := hst
      obtain rfl : n = 1 := Nat.eq_of_beq_eq_true hin
      exact lv_irem hx hb hdg hy (K H locs lsA hP hD hS hM)
  · cases hst
theorem az_st_dup (act : az_act p R s m args c M) (hX : az_X D ad cA fo sc A s s.heap) (hcr : cells ≤ R.cells ∧ slots ≤ R.slots) (hdg : decode (az_by M) pc = .ok (.dup, n)) (hin : az_insok pc (.dup) n = true) (hro : az_room M (.dup) = true) (hcal : az_cal M (.dup) = none) (hst : az_stp sc M (.dup) n pc ls st h = some (pc', ls', st', h')) (K : az_St p l e R s m args below meth c cells slots Q D ad cA fo A (az_nl M) pc' ls' st' h') : az_St p l e R s m args below meth c cells slots Q D ad cA fo A (az_nl M) pc ls st h := by
  intro H locs lsA hP hD hS hM
  obtain ⟨hx, hb, hml, hown, hts, hfr, hlo⟩ := act
  simp only [az_stp] at hst
  split at hst
  · simp only [Option.some.injEq, Prod.mk.injEq] at hst
    obtain ⟨rfl, rfl, rfl, rfl⟩ := hst
    obtain rfl : n = 1 := Nat.eq_of_beq_eq_true hin
    exact lv_dup hx hb hdg rfl (K H locs lsA hP hD hS hM)
  · simp only [Option.some.injEq, Prod.mk.injEq] at hst
    obtain ⟨rfl, rfl, rfl, rfl⟩ := hst
    obtain rfl : n = 1 := Nat.eq_of_beq_eq_true hin
    exact lv_dup hx hb hdg rfl (K H locs lsA hP hD hS hM)
  · cases hst
theorem az_st_dup2 (act : az_act p R s m args c M) (hX : az_X D ad cA fo sc A s s.heap) (hcr : cells ≤ R.cells ∧ slots ≤ R.slots) (hdg : decode (az_by M) pc = .ok (.dup2, n)) (hin : az_insok pc (.dup2) n = true) (hro : az_room M (.dup2) = true) (hcal : az_cal M (.dup2) = none) (hst : az_stp sc M (.dup2) n pc ls st h = some (pc', ls', st', h')) (K : az_St p l e R s m args below meth c cells slots Q D ad cA fo A (az_nl M) pc' ls' st' h') : az_St p l e R s m args below meth c cells slots Q D ad cA fo A (az_nl M) pc ls st h := by
  intro H locs lsA hP hD hS hM
  obtain ⟨hx, hb, hml, hown, hts, hfr, hlo⟩ := act
  simp only [az_stp] at hst
  split at hst
  · simp only [Option.some.injEq, Prod.mk.injEq] at hst
    obtain ⟨rfl, rfl, rfl, rfl⟩ := hst
    obtain rfl : n = 1 := Nat.eq_of_beq_eq_true hin
    exact lv_dup2_11 hx hb hdg rfl rfl (K H locs lsA hP hD hS hM)
  · cases hst
theorem az_st_pop (act : az_act p R s m args c M) (hX : az_X D ad cA fo sc A s s.heap) (hcr : cells ≤ R.cells ∧ slots ≤ R.slots) (hdg : decode (az_by M) pc = .ok (.pop, n)) (hin : az_insok pc (.pop) n = true) (hro : az_room M (.pop) = true) (hcal : az_cal M (.pop) = none) (hst : az_stp sc M (.pop) n pc ls st h = some (pc', ls', st', h')) (K : az_St p l e R s m args below meth c cells slots Q D ad cA fo A (az_nl M) pc' ls' st' h') : az_St p l e R s m args below meth c cells slots Q D ad cA fo A (az_nl M) pc ls st h := by
  intro H locs lsA hP hD hS hM
  obtain ⟨hx, hb, hml, hown, hts, hfr, hlo⟩ := act
  simp only [az_stp] at hst
  split at hst
  · simp only [Option.some.injEq, Prod.mk.injEq] at hst
    obtain ⟨rfl, rfl, rfl, rfl⟩ := hst
    obtain rfl : n = 1 := Nat.eq_of_beq_eq_true hin
    exact lv_pop hx hb hdg rfl (K H locs lsA hP hD hS hM)
  · cases hst
theorem az_st_goto {off : Int} (act : az_act p R s m args c M) (hX : az_X D ad cA fo sc A s s.heap) (hcr : cells ≤ R.cells ∧ slots ≤ R.slots) (hdg : decode (az_by M) pc = .ok (.goto off, n)) (hin : az_insok pc (.goto off) n = true) (hro : az_room M (.goto off) = true) (hcal : az_cal M (.goto off) = none) (hst : az_stp sc M (.goto off) n pc ls st h = some (pc', ls', st', h')) (K : az_St p l e R s m args below meth c cells slots Q D ad cA fo A (az_nl M) pc' ls' st' h') : az_St p l e R s m args below meth c cells slots Q D ad cA fo A (az_nl M) pc ls st h := by
  intro H locs lsA hP hD hS hM
  obtain ⟨hx, hb, hml, hown, hts, hfr, hlo⟩ := act
  simp only [az_stp] at hst
  obtain ⟨ht, rfl, rfl, rfl⟩ := az_jmp_ok hst
  simp only [az_insok, Bool.and_eq_true] at hin
  obtain rfl : n = 3 := Nat.eq_of_beq_eq_true hin.1
  exact lv_goto hx hb hdg ht (K H locs lsA hP hD hS hM)
theorem az_st_ifCond {k : ClassFile.Cond} {off : Int} (act : az_act p R s m args c M) (hX : az_X D ad cA fo sc A s s.heap) (hcr : cells ≤ R.cells ∧ slots ≤ R.slots) (hdg : decode (az_by M) pc = .ok (.ifCond k off, n)) (hin : az_insok pc (.ifCond k off) n = true) (hro : az_room M (.ifCond k off) = true) (hcal : az_cal M (.ifCond k off) = none) (hst : az_stp sc M (.ifCond k off) n pc ls st h = some (pc', ls', st', h')) (K : az_St p l e R s m args below meth c cells slots Q D ad cA fo A (az_nl M) pc' ls' st' h') : az_St p l e R s m args below meth c cells slots Q D ad cA fo A (az_nl M) pc ls st h := by
  intro H locs lsA hP hD hS hM
  obtain ⟨hx, hb, hml, hown, hts, hfr, hlo⟩ := act
  simp only [az_stp] at hst
  simp only [az_insok, Bool.and_eq_true, decide_eq_true_eq] at hin
  obtain ⟨hn3, hof⟩ := hin
  obtain rfl : n = 3 := Nat.eq_of_beq_eq_true hn3
  split at hst
  · rename_i x r
    cases hc : az_cnd k x 0 with
    | true =>
      simp only [hc, cond_true] at hst
      obtain ⟨ht, rfl, rfl, rfl⟩ := az_jmp_ok hst
      cases k with
      | eq => exact lv_if_eq hx hb hdg ht (fun _ => (K H locs lsA hP hD hS hM)) (fun hn => absurd hn (by simpa [az_cnd] using hc))
      | ne => exact lv_if_ne hx hb hdg ht (fun _ => (K H locs lsA hP hD hS hM)) (fun hn => absurd hn (by simpa [az_cnd] using hc))
      | lt => exact lv_if_lt hx hb hdg ht (fun _ => (K H locs lsA hP hD hS hM)) (fun hn => absurd hn (by simpa [az_cnd] using hc))
      | ge => exact lv_if_ge hx hb hdg ht (fun _ => (K H locs lsA hP hD hS hM)) (fun hn => absurd hn (by simpa [az_cnd] using hc))
      | gt => exact lv_if_gt hx hb hdg ht (fun _ => (K H locs lsA hP hD hS hM)) (fun hn => absurd hn (by simpa [az_cnd] using hc))
      | le => exact lv_if_le hx hb hdg ht (fun _ => (K H locs lsA hP hD hS hM)) (fun hn => absurd hn (by simpa [az_cnd] using hc))
    | false =>
      simp only [hc, cond_false, Option.some.injEq, Prod.mk.injEq] at hst
      obtain ⟨rfl, rfl, rfl, rfl⟩ := hst
      have ht9 : (pc : Int) + off = (((pc : Int) + off).toNat : Int) := (Int.toNat_of_nonneg hof).symm
      cases k with
      | eq => exact lv_if_eq hx hb hdg ht9 (fun hn => absurd hn (by simpa [az_cnd] using hc)) (fun _ => (K H locs lsA hP hD hS hM))
      | ne => exact lv_if_ne hx hb hdg ht9 (fun hn => absurd hn (by simpa [az_cnd] using hc)) (fun _ => (K H locs lsA hP hD hS hM))
      | lt => exact lv_if_lt hx hb hdg ht9 (fun hn => absurd hn (by simpa [az_cnd] using hc)) (fun _ => (K H locs lsA hP hD hS hM))
      | ge => exact lv_if_ge hx hb hdg ht9 (fun hn => absurd hn (by simpa [az_cnd] using hc)) (fun _ => (K H locs lsA hP hD hS hM))
      | gt => exact lv_if_gt hx hb hdg ht9 (fun hn => absurd hn (by simpa [az_cnd] using hc)) (fun _ => (K H locs lsA hP hD hS hM))
      | le => exact lv_if_le hx hb hdg ht9 (fun hn => absurd hn (by simpa [az_cnd] using hc)) (fun _ => (K H locs lsA hP hD hS hM))
  · cases hst
theorem az_st_if_icmp {k : ClassFile.Cond} {off : Int} (act : az_act p R s m args c M) (hX : az_X D ad cA fo sc A s s.heap) (hcr : cells ≤ R.cells ∧ slots ≤ R.slots) (hdg : decode (az_by M) pc = .ok (.if_icmp k off, n)) (hin : az_insok pc (.if_icmp k off) n = true) (hro : az_room M (.if_icmp k off) = true) (hcal : az_cal M (.if_icmp k off) = none) (hst : az_stp sc M (.if_icmp k off) n pc ls st h = some (pc', ls', st', h')) (K : az_St p l e R s m args below meth c cells slots Q D ad cA fo A (az_nl M) pc' ls' st' h') : az_St p l e R s m args below meth c cells slots Q D ad cA fo A (az_nl M) pc ls st h := by
  intro H locs lsA hP hD hS hM
  obtain ⟨hx, hb, hml, hown, hts, hfr, hlo⟩ := act
  simp only [az_stp] at hst
  simp only [az_insok, Bool.and_eq_true, decide_eq_true_eq] at hin
  obtain ⟨hn3, hof⟩ := hin
  obtain rfl : n = 3 := Nat.eq_of_beq_eq_true hn3
  split at hst
  · rename_i y x r
    cases hc : az_cnd k x y with
    | true =>
      simp only [hc, cond_true] at hst
      obtain ⟨ht, rfl, rfl, rfl⟩ := az_jmp_ok hst
      cases k with
      | eq => exact lv_icmp_eq hx hb hdg ht (fun _ => (K H locs lsA hP hD hS hM)) (fun hn => absurd hn (by simpa [az_cnd] using hc))
      | ne => exact lv_icmp_ne hx hb hdg ht (fun _ => (K H locs lsA hP hD hS hM)) (fun hn => absurd hn (by simpa [az_cnd] using hc))
      | lt => exact lv_icmp_lt hx hb hdg ht (fun _ => (K H locs lsA hP hD hS hM)) (fun hn => absurd hn (by simpa [az_cnd] using hc))
      | ge => exact lv_icmp_ge hx hb hdg ht (fun _ => (K H locs lsA hP hD hS hM)) (fun hn => absurd hn (by simpa [az_cnd] using hc))
      | gt => exact lv_icmp_gt hx hb hdg ht (fun _ => (K H locs lsA hP hD hS hM)) (fun hn => absurd hn (by simpa [az_cnd] using hc))
      | le => exact lv_icmp_le hx hb hdg ht (fun _ => (K H locs lsA hP hD hS hM)) (fun hn => absurd hn (by simpa [az_cnd] using hc))
    | false =>
      simp only [hc, cond_false, Option.some.injEq, Prod.mk.injEq] at hst
      obtain ⟨rfl, rfl, rfl, rfl⟩ := hst
      have ht9 : (pc : Int) + off = (((pc : Int) + off).toNat : Int) := (Int.toNat_of_nonneg hof).symm
      cases k with
      | eq => exact lv_icmp_eq hx hb hdg ht9 (fun hn => absurd hn (by simpa [az_cnd] using hc)) (fun _ => (K H locs lsA hP hD hS hM))
      | ne => exact lv_icmp_ne hx hb hdg ht9 (fun hn => absurd hn (by simpa [az_cnd] using hc)) (fun _ => (K H locs lsA hP hD hS hM))
      | lt => exact lv_icmp_lt hx hb hdg ht9 (fun hn => absurd hn (by simpa [az_cnd] using hc)) (fun _ => (K H locs lsA hP hD hS hM))
      | ge => exact lv_icmp_ge hx hb hdg ht9 (fun hn => absurd hn (by simpa [az_cnd] using hc)) (fun _ => (K H locs lsA hP hD hS hM))
      | gt => exact lv_icmp_gt hx hb hdg ht9 (fun hn => absurd hn (by simpa [az_cnd] using hc)) (fun _ => (K H locs lsA hP hD hS hM))
      | le => exact lv_icmp_le hx hb hdg ht9 (fun hn => absurd hn (by simpa [az_cnd] using hc)) (fun _ => (K H locs lsA hP hD hS hM))
  · cases hst
theorem az_st_tableswitch {d lo hi : Int} {offs : Array Int} (act : az_act p R s m args c M) (hX : az_X D ad cA fo sc A s s.heap) (hcr : cells ≤ R.cells ∧ slots ≤ R.slots) (hdg : decode (az_by M) pc = .ok (.tableswitch d lo hi offs, n)) (hin : az_insok pc (.tableswitch d lo hi offs) n = true) (hro : az_room M (.tableswitch d lo hi offs) = true) (hcal : az_cal M (.tableswitch d lo hi offs) = none) (hst : az_stp sc M (.tableswitch d lo hi offs) n pc ls st h = some (pc', ls', st', h')) (K : az_St p l e R s m args below meth c cells slots Q D ad cA fo A (az_nl M) pc' ls' st' h') : az_St p l e R s m args below meth c cells slots Q D ad cA fo A (az_nl M) pc ls st h := by
  intro H locs lsA hP hD hS hM
  obtain ⟨hx, hb, hml, hown, hts, hfr, hlo⟩ := act
  simp only [az_stp] at hst
  split at hst
  · rename_i x r
    cases hc : (decide (x.toInt < lo) || decide (hi < x.toInt)) with
    | true =>
      simp only [hc, cond_true] at hst
      obtain ⟨ht, rfl, rfl, rfl⟩ := az_jmp_ok hst
      simp only [Bool.or_eq_true, decide_eq_true_eq] at hc
      exact lv_tableOut hx hb hdg hc ht (K H locs lsA hP hD hS hM)
    | false =>
      simp only [hc, cond_false] at hst
      simp only [Bool.or_eq_false_iff, decide_eq_false_iff_not] at hc
      split at hst
      · rename_i off ho
        obtain ⟨ht, rfl, rfl, rfl⟩ := az_jmp_ok hst
        exact lv_tableIn hx hb hdg hc.1 hc.2 ho ht (K H locs lsA hP hD hS hM)
      · cases hst
  · cases hst
theorem az_st_lookupswitch {d : Int} {ps : Array (Int × Int)} (act : az_act p R s m args c M) (hX : az_X D ad cA fo sc A s s.heap) (hcr : cells ≤ R.cells ∧ slots ≤ R.slots) (hdg : decode (az_by M) pc = .ok (.lookupswitch d ps, n)) (hin : az_insok pc (.lookupswitch d ps) n = true) (hro : az_room M (.lookupswitch d ps) = true) (hcal : az_cal M (.lookupswitch d ps) = none) (hst : az_stp sc M (.lookupswitch d ps) n pc ls st h = some (pc', ls', st', h')) (K : az_St p l e R s m args below meth c cells slots Q D ad cA fo A (az_nl M) pc' ls' st' h') : az_St p l e R s m args below meth c cells slots Q D ad cA fo A (az_nl M) pc ls st h := by
  intro H locs lsA hP hD hS hM
  obtain ⟨hx, hb, hml, hown, hts, hfr, hlo⟩ := act
  simp only [az_stp] at hst
  split at hst
  · rename_i x r
    cases hc : ((ps.toList.zip (ps.toList.drop 1)).all (fun q => decide (q.1.1 < q.2.1))) with
    | true =>
      simp only [hc, cond_true] at hst
      obtain ⟨ht, rfl, rfl, rfl⟩ := az_jmp_ok hst
      exact lv_lookup hx hb hdg hc rfl ht (K H locs lsA hP hD hS hM)
    | false =>
      simp only [hc, cond_false] at hst
      cases hst
  · cases hst
theorem az_st_getfield {k : Nat} (act : az_act p R s m args c M) (hX : az_X D ad cA fo sc A s s.heap) (hcr : cells ≤ R.cells ∧ slots ≤ R.slots) (hdg : decode (az_by M) pc = .ok (.getfield k, n)) (hin : az_insok pc (.getfield k) n = true) (hro : az_room M (.getfield k) = true) (hcal : az_cal M (.getfield k) = none) (hst : az_stp sc M (.getfield k) n pc ls st h = some (pc', ls', st', h')) (K : az_St p l e R s m args below meth c cells slots Q D ad cA fo A (az_nl M) pc' ls' st' h') : az_St p l e R s m args below meth c cells slots Q D ad cA fo A (az_nl M) pc ls st h := by
  intro H locs lsA hP hD hS hM
  obtain ⟨hx, hb, hml, hown, hts, hfr, hlo⟩ := act
  simp only [az_stp] at hst
  split at hst
  · rename_i ci j q r hfl
    split at hst
    · rename_i v hgv
      simp only [Option.some.injEq, Prod.mk.injEq] at hst
      obtain ⟨rfl, rfl, rfl, rfl⟩ := hst
      obtain rfl : n = 3 := Nat.eq_of_beq_eq_true hin
      rcases az_getf_ok hgv with ⟨fs, hw, hv⟩ | ⟨rfl, hq, hv⟩
      · obtain ⟨hci, hlen, -⟩ := az_wok_obj hw
        obtain ⟨hc, hin9, -, -, hdc⟩ := az_clp_ok ci hci
        have hj : j < (az_cl9 ci).2 := by
          rw [← hlen]
          rcases hv with ⟨r9, h9, -⟩ | ⟨h9, -⟩ <;> exact (List.getElem?_eq_some_iff.mp h9).1
        have hvv : (fs.mapIdx fun j o => az_fv ad h q j o)[j]? = some (az_cv ad fo v) := by
          rcases hv with ⟨r9, h9, rfl⟩ | ⟨h9, rfl⟩ <;> simp [List.getElem?_mapIdx, h9, az_cv, az_fv]
        have hsame : ∀ x, s.fieldFound? (az_T ci j).1 (az_T ci j).2.1 (az_T ci j).2.2.1 = some x → s.fieldFound? (az_own ci) (az_T ci j).2.1 (az_T ci j).2.2.1 = some x := fun x h9 => by rw [hdc j hj] at h9; exact h9
        rcases az_fl_ok hfl with hl | ⟨host, hl⟩
        · exact va_get hx hb hts hin9 hown hX.1 hP q (az_ws_at hw) hc j hj (hts _ hl) hsame hvv hdg (K H locs lsA hP hD hS hM)
        · exact va_getN hx hb hts hin9 hown hX.1 hP q (az_ws_at hw) hc j hj (va_Nw.use rfl (hX.2.1 _ hl)) hsame hvv hdg (K H locs lsA hP hD hS hM)
      · obtain ⟨i9, hi9, hq9, hs9⟩ := az_txi hq
        subst hq9
        obtain ⟨-, hco, hva, -⟩ := hX.2.2.2.2.1.1 i9 hi9
        rcases hv with ⟨rfl, rfl⟩ | ⟨rfl, rfl⟩
        · rcases az_fl_ok hfl with hl | ⟨host, hl⟩
          · have := hts _ hl
            refine vk_getf hx hb hva hS hown (ref := "java/lang/String") this (fun _ h9 => h9) hdg ?_
            have K9 := K H locs lsA hP hD hS hM
            exact (congrArg (fun z => W p l e R s m args below meth c H locs cells slots Q (F0 m (pc + 3) lsA (Value.ref z :: List.map (az_cv ad fo) r))) (congrArg ad hs9)).mp K9
          · exact absurd hl az_noN9
        · rcases az_fl_ok hfl with hl | ⟨host, hl⟩
          · have := hts _ hl
            exact vk_getf hx hb hco hS hown (ref := "java/lang/String") this (fun _ h9 => h9) hdg (K H locs lsA hP hD hS hM)
          · exact absurd hl az_noN9
    · cases hst
  · cases hst
theorem az_st_putfield {k : Nat} (act : az_act p R s m args c M) (hX : az_X D ad cA fo sc A s s.heap) (hcr : cells ≤ R.cells ∧ slots ≤ R.slots) (hdg : decode (az_by M) pc = .ok (.putfield k, n)) (hin : az_insok pc (.putfield k) n = true) (hro : az_room M (.putfield k) = true) (hcal : az_cal M (.putfield k) = none) (hst : az_stp sc M (.putfield k) n pc ls st h = some (pc', ls', st', h')) (K : az_St p l e R s m args below meth c cells slots Q D ad cA fo A (az_nl M) pc' ls' st' h') : az_St p l e R s m args below meth c cells slots Q D ad cA fo A (az_nl M) pc ls st h := by
  intro H locs lsA hP hD hS hM
  obtain ⟨hx, hb, hml, hown, hts, hfr, hlo⟩ := act
  simp only [az_stp] at hst
  split at hst
  · rename_i ci j x q r hfl
    split at hst
    · rename_i h9 hgv
      simp only [Option.some.injEq, Prod.mk.injEq] at hst
      obtain ⟨rfl, rfl, rfl, rfl⟩ := hst
      obtain rfl : n = 3 := Nat.eq_of_beq_eq_true hin
      obtain ⟨fs, hw, hj9, rfl, hz⟩ := az_putf_ok hgv
      obtain ⟨hci, hlen, hfld⟩ := az_wok_obj hw
      obtain ⟨hc, hin9, ⟨ty0, hty⟩, hnm, hdc⟩ := az_clp_ok ci hci
      have hj : j < (az_cl9 ci).2 := by
        rw [← hlen]
        exact (List.getElem?_eq_some_iff.mp hj9).1
      obtain ⟨hfin, hkind⟩ := hfld j hj9
      have hsame : ∀ x, s.fieldFound? (az_T ci j).1 (az_T ci j).2.1 (az_T ci j).2.2.1 = some x → s.fieldFound? (az_own ci) (az_T ci j).2.1 (az_T ci j).2.2.1 = some x := fun x h9 => by rw [hdc j hj] at h9; exact h9
      have hl9 : j < (fs.mapIdx fun j o => az_fv ad h q j o).length := by
        rw [List.length_mapIdx]
        exact (List.getElem?_eq_some_iff.mp hj9).1
      have hty9 : ∃ ty : FieldType, parseFieldDescriptor ((az_T ci) j).2.2.1 = some ty ∧ narrow ty (.int x) = .int x ∧ fits ty (.int x) = true := by
        rcases hkind with ⟨hz9, hd9⟩ | ⟨-, hd9⟩
        · refine ⟨.boolean, by rw [hd9]; decide +kernel, ?_⟩
          rcases hz hz9 with rfl | rfl <;> exact ⟨rfl, rfl⟩
        · exact ⟨.int, by rw [hd9]; decide +kernel, rfl, rfl⟩
      obtain ⟨ty, hd, hn, hfit⟩ := hty9
      have kk : ∀ (H1 : Heap) (locs1 : List Loc), va_P D vwCl ((az_ws ad cA h).set q (ad q, .inr (ci, (fs.mapIdx fun j o => az_fv ad h q j o).set j (.int x)))) H1 → va_D A ((az_ws ad cA h).set q (ad q, .inr (ci, (fs.mapIdx fun j o => az_fv ad h q j o).set j (.int x)))) → va_S A s.heap H1 locs1 → W p l e R s m args below meth c H1 locs1 cells slots Q (F0 m (pc + 3) lsA (r.map (az_cv ad fo))) := by
        intro H1 locs1 hP1 hD1 hS1
        rw [az_ws_set hw (az_cell_obj hj9) (az_ne_obj hw hj9)] at hP1 hD1
        exact K H1 locs1 lsA hP1 hD1 hS1 hM
      rcases az_fl_ok hfl with hl | ⟨host, hl⟩
      · exact va_put hx hb hts hin9 ty0 hty hnm hown hX.1 hP hD hS q (az_ws_at hw) hc j hj (hts _ hl) hsame hfin hd hn hfit hl9 hdg kk
      · exact va_putN hx hb hts hin9 ty0 hty hnm hown hX.1 hP hD hS q (az_ws_at hw) hc j hj (va_Nw.use rfl (hX.2.1 _ hl)) hsame hfin hd hn hfit hl9 hdg kk
    · cases hst
  · cases hst
theorem az_st_getstatic {k : Nat} (act : az_act p R s m args c M) (hX : az_X D ad cA fo sc A s s.heap) (hcr : cells ≤ R.cells ∧ slots ≤ R.slots) (hdg : decode (az_by M) pc = .ok (.getstatic k, n)) (hin : az_insok pc (.getstatic k) n = true) (hro : az_room M (.getstatic k) = true) (hcal : az_cal M (.getstatic k) = none) (hst : az_stp sc M (.getstatic k) n pc ls st h = some (pc', ls', st', h')) (K : az_St p l e R s m args below meth c cells slots Q D ad cA fo A (az_nl M) pc' ls' st' h') : az_St p l e R s m args below meth c cells slots Q D ad cA fo A (az_nl M) pc ls st h := by
  intro H locs lsA hP hD hS hM
  obtain ⟨hx, hb, hml, hown, hts, hfr, hlo⟩ := act
  simp only [az_stp] at hst
  split at hst
  · rename_i v hv
    simp only [Option.some.injEq, Prod.mk.injEq] at hst
    obtain ⟨rfl, rfl, rfl, rfl⟩ := hst
    obtain rfl : n = 3 := Nat.eq_of_beq_eq_true hin
    rcases az_cs_ok hv with ⟨rfl, hw⟩ | ⟨rfl, hw⟩
    · exact va_gets hx hb hX.2.2.2.2.2.2.1 hS hown (hts _ hw) (fun _ h9 => h9) hdg (K H locs lsA hP hD hS hM)
    · exact va_gets hx hb hX.2.2.2.2.2.2.2.1 hS hown (hts _ hw) (fun _ h9 => h9) hdg (K H locs lsA hP hD hS hM)
  · cases hst
theorem az_st_arraylength (act : az_act p R s m args c M) (hX : az_X D ad cA fo sc A s s.heap) (hcr : cells ≤ R.cells ∧ slots ≤ R.slots) (hdg : decode (az_by M) pc = .ok (.arraylength, n)) (hin : az_insok pc (.arraylength) n = true) (hro : az_room M (.arraylength) = true) (hcal : az_cal M (.arraylength) = none) (hst : az_stp sc M (.arraylength) n pc ls st h = some (pc', ls', st', h')) (K : az_St p l e R s m args below meth c cells slots Q D ad cA fo A (az_nl M) pc' ls' st' h') : az_St p l e R s m args below meth c cells slots Q D ad cA fo A (az_nl M) pc ls st h := by
  intro H locs lsA hP hD hS hM
  obtain ⟨hx, hb, hml, hown, hts, hfr, hlo⟩ := act
  simp only [az_stp] at hst
  split at hst
  · rename_i q r
    split at hst
    · rename_i N hN
      simp only [Option.some.injEq, Prod.mk.injEq] at hst
      obtain ⟨rfl, rfl, rfl, rfl⟩ := hst
      obtain rfl : n = 1 := Nat.eq_of_beq_eq_true hin
      unfold az_alen at hN
      split at hN
      · rename_i t N9 hw
        cases hN
        exact va_alen hx hb hX.1 hP q t (az_ws_at hw) (az_tys_at (az_wok_arr hw).1) rfl hdg (K H locs lsA hP hD hS hM)
      · cases hN
      · cases hq : Nat.beq q 2000 with
        | true =>
          simp only [hq, cond_true] at hN
          obtain rfl := Option.some.inj hN
          obtain rfl := Nat.eq_of_beq_eq_true hq
          exact va_slen hx hb hX.2.2.1 hX.2.2.2.1.2 hX.2.2.2.1.1 hS hdg (K H locs lsA hP hD hS hM)
        | false =>
          simp only [hq, cond_false] at hN
          cases hB : az_isB q with
          | false => simp [hB] at hN
          | true =>
            simp only [hB, cond_true] at hN
            obtain rfl := Option.some.inj hN
            simp only [az_isB, Bool.and_eq_true] at hB
            have h1 := Nat.le_of_ble_eq_true hB.1
            have h2 := Nat.le_of_ble_eq_true hB.2
            obtain ⟨i9, hi9, hq9, hs9⟩ := az_bxi ⟨h1, h2⟩
            rw [hs9] at K
            subst hq9
            obtain ⟨-, -, -, hT⟩ := hX.2.2.2.2.1.1 i9 hi9
            exact va_tlen hx hb hT hS (congrArg Int32.ofNat (az_tlen_eq i9)) hdg (K H locs lsA hP hD hS hM)
    · cases hst
  · cases hst
theorem az_st_iaload (act : az_act p R s m args c M) (hX : az_X D ad cA fo sc A s s.heap) (hcr : cells ≤ R.cells ∧ slots ≤ R.slots) (hdg : decode (az_by M) pc = .ok (.iaload, n)) (hin : az_insok pc (.iaload) n = true) (hro : az_room M (.iaload) = true) (hcal : az_cal M (.iaload) = none) (hst : az_stp sc M (.iaload) n pc ls st h = some (pc', ls', st', h')) (K : az_St p l e R s m args below meth c cells slots Q D ad cA fo A (az_nl M) pc' ls' st' h') : az_St p l e R s m args below meth c cells slots Q D ad cA fo A (az_nl M) pc ls st h := by
  intro H locs lsA hP hD hS hM
  obtain ⟨hx, hb, hml, hown, hts, hfr, hlo⟩ := act
  simp only [az_stp] at hst
  split at hst
  · rename_i i q r
    split at hst
    · rename_i v hN
      simp only [Option.some.injEq, Prod.mk.injEq] at hst
      obtain ⟨rfl, rfl, rfl, rfl⟩ := hst
      obtain rfl : n = 1 := Nat.eq_of_beq_eq_true hin
      unfold az_ald at hN
      split at hN
      · rename_i t N9 hw
        cases ht : Nat.beq t 0 with
        | false => simp [ht] at hN
        | true =>
          simp only [ht, cond_true] at hN
          obtain rfl := Nat.eq_of_beq_eq_true ht
          cases ho : az_oob i N9 with
          | true => simp [ho] at hN
          | false =>
            simp only [ho, cond_false] at hN
            cases hN
            exact va_iald hx hb hX.1 hP q 0 (az_ws_at hw) (show (az_tys cA)[0]? = some (cA 0, .int) from rfl) (az_oob_in ho) hdg (K H locs lsA hP hD hS hM)
      · cases hN
      · cases hq : (Nat.beq 0 0 && Nat.beq q 2000) with
        | true =>
          simp only [hq, cond_true] at hN
          simp only [Bool.and_eq_true] at hq
          obtain rfl := Nat.eq_of_beq_eq_true hq.2
          cases ho : az_oob i sc.1 with
          | true => simp [ho] at hN
          | false =>
            simp only [ho, cond_false] at hN
            obtain rfl := Option.some.inj hN
            exact va_sld hx hb hX.2.2.1 hX.2.2.2.1.2 hX.2.2.2.1.1 hS (az_oob_in ho) hdg (K H locs lsA hP hD hS hM)
        | false =>
          have hz : (Nat.beq 0 1 && az_isB q) = false := rfl
          simp only [hq, hz, cond_false] at hN
          cases hN
    · cases hst
  · cases hst
theorem az_st_baload (act : az_act p R s m args c M) (hX : az_X D ad cA fo sc A s s.heap) (hcr : cells ≤ R.cells ∧ slots ≤ R.slots) (hdg : decode (az_by M) pc = .ok (.baload, n)) (hin : az_insok pc (.baload) n = true) (hro : az_room M (.baload) = true) (hcal : az_cal M (.baload) = none) (hst : az_stp sc M (.baload) n pc ls st h = some (pc', ls', st', h')) (K : az_St p l e R s m args below meth c cells slots Q D ad cA fo A (az_nl M) pc' ls' st' h') : az_St p l e R s m args below meth c cells slots Q D ad cA fo A (az_nl M) pc ls st h := by
  intro H locs lsA hP hD hS hM
  obtain ⟨hx, hb, hml, hown, hts, hfr, hlo⟩ := act
  simp only [az_stp] at hst
  split at hst
  · rename_i i q r
    split at hst
    · rename_i v hN
      simp only [Option.some.injEq, Prod.mk.injEq] at hst
      obtain ⟨rfl, rfl, rfl, rfl⟩ := hst
      obtain rfl : n = 1 := Nat.eq_of_beq_eq_true hin
      unfold az_ald at hN
      split at hN
      · rename_i t N9 hw
        cases ht : Nat.beq t 1 with
        | false => simp [ht] at hN
        | true =>
          simp only [ht, cond_true] at hN
          obtain rfl := Nat.eq_of_beq_eq_true ht
          cases ho : az_oob i N9 with
          | true => simp [ho] at hN
          | false =>
            simp only [ho, cond_false] at hN
            cases hN
            exact va_zald hx hb hX.1 hP q 1 (az_ws_at hw) (show (az_tys cA)[1]? = some (cA 1, .boolean) from rfl) (az_oob_in ho) hdg (K H locs lsA hP hD hS hM)
      · cases hN
      · have hz : (Nat.beq 1 0 && Nat.beq q 2000) = false := rfl
        simp only [hz, cond_false] at hN
        cases hB : (Nat.beq 1 1 && az_isB q) with
        | false =>
          simp only [hB, cond_false] at hN
          cases hN
        | true =>
          simp only [hB, cond_true] at hN
          simp only [az_isB, Bool.and_eq_true] at hB
          have h1 := Nat.le_of_ble_eq_true hB.2.1
          have h2 := Nat.le_of_ble_eq_true hB.2.2
          obtain ⟨i9, hi9, hq9, hs9⟩ := az_bxi ⟨h1, h2⟩
          rw [hs9] at hN
          subst hq9
          cases ho : az_oob i (az_tl i9) with
          | true => simp [ho] at hN
          | false =>
            simp only [ho, cond_false] at hN
            cases hN
            obtain ⟨-, -, -, hT⟩ := hX.2.2.2.2.1.1 i9 hi9
            have hin9 := az_oob_in ho
            rw [az_tlen_eq] at hT
            exact va_tb hx hb hT hS hin9 rfl hdg (K H locs lsA hP hD hS hM)
    · cases hst
  · cases hst
theorem az_st_caload (act : az_act p R s m args c M) (hX : az_X D ad cA fo sc A s s.heap) (hcr : cells ≤ R.cells ∧ slots ≤ R.slots) (hdg : decode (az_by M) pc = .ok (.caload, n)) (hin : az_insok pc (.caload) n = true) (hro : az_room M (.caload) = true) (hcal : az_cal M (.caload) = none) (hst : az_stp sc M (.caload) n pc ls st h = some (pc', ls', st', h')) (K : az_St p l e R s m args below meth c cells slots Q D ad cA fo A (az_nl M) pc' ls' st' h') : az_St p l e R s m args below meth c cells slots Q D ad cA fo A (az_nl M) pc ls st h := by
  intro H locs lsA hP hD hS hM
  obtain ⟨hx, hb, hml, hown, hts, hfr, hlo⟩ := act
  simp only [az_stp] at hst
  split at hst
  · rename_i i q r
    split at hst
    · rename_i v hN
      simp only [Option.some.injEq, Prod.mk.injEq] at hst
      obtain ⟨rfl, rfl, rfl, rfl⟩ := hst
      obtain rfl : n = 1 := Nat.eq_of_beq_eq_true hin
      unfold az_ald at hN
      split at hN
      · rename_i t N9 hw
        cases ht : Nat.beq t 2 with
        | false => simp [ht] at hN
        | true =>
          simp only [ht, cond_true] at hN
          obtain rfl := Nat.eq_of_beq_eq_true ht
          cases ho : az_oob i N9 with
          | true => simp [ho] at hN
          | false =>
            simp only [ho, cond_false] at hN
            cases hN
            exact va_cald hx hb hX.1 hP q 2 (az_ws_at hw) (show (az_tys cA)[2]? = some (cA 2, .char) from rfl) (az_oob_in ho) hdg (K H locs lsA hP hD hS hM)
      · cases hN
      · have hz : (Nat.beq 2 0 && Nat.beq q 2000) = false := rfl
        have hz2 : (Nat.beq 2 1 && az_isB q) = false := rfl
        simp only [hz, hz2, cond_false] at hN
        cases hN
    · cases hst
  · cases hst
theorem az_st_iastore (act : az_act p R s m args c M) (hX : az_X D ad cA fo sc A s s.heap) (hcr : cells ≤ R.cells ∧ slots ≤ R.slots) (hdg : decode (az_by M) pc = .ok (.iastore, n)) (hin : az_insok pc (.iastore) n = true) (hro : az_room M (.iastore) = true) (hcal : az_cal M (.iastore) = none) (hst : az_stp sc M (.iastore) n pc ls st h = some (pc', ls', st', h')) (K : az_St p l e R s m args below meth c cells slots Q D ad cA fo A (az_nl M) pc' ls' st' h') : az_St p l e R s m args below meth c cells slots Q D ad cA fo A (az_nl M) pc ls st h := by
  intro H locs lsA hP hD hS hM
  obtain ⟨hx, hb, hml, hown, hts, hfr, hlo⟩ := act
  simp only [az_stp] at hst
  split at hst
  · rename_i x i q r
    split at hst
    · rename_i h9 hN
      simp only [Option.some.injEq, Prod.mk.injEq] at hst
      obtain ⟨rfl, rfl, rfl, rfl⟩ := hst
      obtain rfl : n = 1 := Nat.eq_of_beq_eq_true hin
      unfold az_ast at hN
      split at hN
      · rename_i t N9 hw
        cases ht : Nat.beq t 0 with
        | false => simp [ht] at hN
        | true =>
          simp only [ht, cond_true] at hN
          obtain rfl := Nat.eq_of_beq_eq_true ht
          cases ho : az_oob i N9 with
          | true => simp [ho] at hN
          | false =>
            simp only [ho, cond_false] at hN
            cases hN
            refine va_iast hx hb hX.1 hP hD hS q 0 (az_ws_at hw) (show (az_tys cA)[0]? = some (cA 0, .int) from rfl) (az_oob_in ho) hdg ?_
            intro H1 locs1 hP1 hD1 hS1
            rw [az_ws_set hw (az_cell_arr (x := x)) (az_ne_arr hw)] at hP1 hD1
            exact K H1 locs1 lsA hP1 hD1 hS1 hM
      · cases hN
    · cases hst
  · cases hst
theorem az_st_bastore (act : az_act p R s m args c M) (hX : az_X D ad cA fo sc A s s.heap) (hcr : cells ≤ R.cells ∧ slots ≤ R.slots) (hdg : decode (az_by M) pc = .ok (.bastore, n)) (hin : az_insok pc (.bastore) n = true) (hro : az_room M (.bastore) = true) (hcal : az_cal M (.bastore) = none) (hst : az_stp sc M (.bastore) n pc ls st h = some (pc', ls', st', h')) (K : az_St p l e R s m args below meth c cells slots Q D ad cA fo A (az_nl M) pc' ls' st' h') : az_St p l e R s m args below meth c cells slots Q D ad cA fo A (az_nl M) pc ls st h := by
  intro H locs lsA hP hD hS hM
  obtain ⟨hx, hb, hml, hown, hts, hfr, hlo⟩ := act
  simp only [az_stp] at hst
  split at hst
  · rename_i x i q r
    split at hst
    · rename_i h9 hN
      simp only [Option.some.injEq, Prod.mk.injEq] at hst
      obtain ⟨rfl, rfl, rfl, rfl⟩ := hst
      obtain rfl : n = 1 := Nat.eq_of_beq_eq_true hin
      unfold az_ast at hN
      split at hN
      · rename_i t N9 hw
        cases ht : Nat.beq t 1 with
        | false => simp [ht] at hN
        | true =>
          simp only [ht, cond_true] at hN
          obtain rfl := Nat.eq_of_beq_eq_true ht
          cases ho : az_oob i N9 with
          | true => simp [ho] at hN
          | false =>
            simp only [ho, cond_false] at hN
            cases hN
            refine va_zast hx hb hX.1 hP hD hS q 1 (az_ws_at hw) (show (az_tys cA)[1]? = some (cA 1, .boolean) from rfl) (az_oob_in ho) hdg ?_
            intro H1 locs1 hP1 hD1 hS1
            rw [az_ws_set hw (az_cell_arr (x := (vp_nar .boolean x))) (az_ne_arr hw)] at hP1 hD1
            exact K H1 locs1 lsA hP1 hD1 hS1 hM
      · cases hN
    · cases hst
  · cases hst
theorem az_st_invokestatic {k : Nat} (act : az_act p R s m args c M) (hX : az_X D ad cA fo sc A s s.heap) (hcr : cells ≤ R.cells ∧ slots ≤ R.slots) (hdg : decode (az_by M) pc = .ok (.invokestatic k, n)) (hin : az_insok pc (.invokestatic k) n = true) (hro : az_room M (.invokestatic k) = true) (hcal : az_cal M (.invokestatic k) = none) (hst : az_stp sc M (.invokestatic k) n pc ls st h = some (pc', ls', st', h')) (K : az_St p l e R s m args below meth c cells slots Q D ad cA fo A (az_nl M) pc' ls' st' h') : az_St p l e R s m args below meth c cells slots Q D ad cA fo A (az_nl M) pc ls st h := by
  intro H locs lsA hP hD hS hM
  obtain ⟨hx, hb, hml, hown, hts, hfr, hlo⟩ := act
  simp only [az_stp] at hst
  have hro9 : ∀ b, az_mx M.1 k = some b → 1 ≤ az_fr M ∧ 21 ≤ az_lo M := by
    intro b hb9
    simp only [az_room, hcal, hb9, Bool.and_eq_true] at hro
    exact ⟨Nat.le_of_ble_eq_true hro.1, Nat.le_of_ble_eq_true hro.2⟩
  have hcat : ∀ r : List Value, ((r.map (az_cv ad fo)).map fun v => v.category).sum = r.length := by
    intro r
    induction r with
    | nil => rfl
    | cons a t ih => simp only [List.map_cons, List.sum_cons, ih, az_cv_cat hX.2.2.2.2.2.2.2.2, List.length_cons]; omega
  obtain ⟨⟨w1, w2⟩, ⟨w3, w4⟩, w5⟩ := az_mathw
  have hml9 : c.maxLocals = lsA.size := hml.trans hM.1.symm
  split at hst
  · rename_i y x r hmx
    cases hr : Nat.ble r.length 8 with
    | false => simp [hr] at hst
    | true =>
      simp only [hr, cond_true, Option.some.injEq, Prod.mk.injEq] at hst
      obtain ⟨rfl, rfl, rfl, rfl⟩ := hst
      obtain rfl : n = 3 := Nat.eq_of_beq_eq_true hin
      obtain ⟨hf1, hl1⟩ := hro9 _ hmx
      have hr8 := Nat.le_of_ble_eq_true hr
      rcases az_mx_ok hmx with ⟨-, hw⟩ | ⟨h9, -⟩
      · exact va_mmax hx hb hml9 hown (hts _ hw) (hts _ w1) (hts _ w5) (hts _ w2) (by omega) (by rw [hcat]; omega) hcr.1 hcr.2 hdg (K H locs lsA hP hD hS hM)
      · cases h9
  · rename_i y x r hmx
    cases hr : Nat.ble r.length 8 with
    | false => simp [hr] at hst
    | true =>
      simp only [hr, cond_true, Option.some.injEq, Prod.mk.injEq] at hst
      obtain ⟨rfl, rfl, rfl, rfl⟩ := hst
      obtain rfl : n = 3 := Nat.eq_of_beq_eq_true hin
      obtain ⟨hf1, hl1⟩ := hro9 _ hmx
      have hr8 := Nat.le_of_ble_eq_true hr
      rcases az_mx_ok hmx with ⟨h9, -⟩ | ⟨-, hw⟩
      · cases h9
      · exact va_mmin hx hb hml9 hown (hts _ hw) (hts _ w3) (hts _ w5) (hts _ w4) (by omega) (by rw [hcat]; omega) hcr.1 hcr.2 hdg (K H locs lsA hP hD hS hM)
  · cases hst
theorem az_stp_ok {i : Instr} (act : az_act p R s m args c M) (hX : az_X D ad cA fo sc A s s.heap) (hcr : cells ≤ R.cells ∧ slots ≤ R.slots) (hdg : decode (az_by M) pc = .ok (i, n)) (hin : az_insok pc i n = true) (hro : az_room M i = true) (hcal : az_cal M i = none) (hst : az_stp sc M i n pc ls st h = some (pc', ls', st', h')) (K : az_St p l e R s m args below meth c cells slots Q D ad cA fo A (az_nl M) pc' ls' st' h') : az_St p l e R s m args below meth c cells slots Q D ad cA fo A (az_nl M) pc ls st h := by
  cases i
  case iload_n => exact az_st_iload_n act hX hcr hdg hin hro hcal hst K
  case iload => exact az_st_iload act hX hcr hdg hin hro hcal hst K
  case aload_n => exact az_st_aload_n act hX hcr hdg hin hro hcal hst K
  case aload => exact az_st_aload act hX hcr hdg hin hro hcal hst K
  case istore_n => exact az_st_istore_n act hX hcr hdg hin hro hcal hst K
  case istore => exact az_st_istore act hX hcr hdg hin hro hcal hst K
  case astore_n => exact az_st_astore_n act hX hcr hdg hin hro hcal hst K
  case iinc => exact az_st_iinc act hX hcr hdg hin hro hcal hst K
  case iconst => exact az_st_iconst act hX hcr hdg hin hro hcal hst K
  case bipush => exact az_st_bipush act hX hcr hdg hin hro hcal hst K
  case sipush => exact az_st_sipush act hX hcr hdg hin hro hcal hst K
  case ldc => exact az_st_ldc act hX hcr hdg hin hro hcal hst K
  case iadd => exact az_st_iadd act hX hcr hdg hin hro hcal hst K
  case isub => exact az_st_isub act hX hcr hdg hin hro hcal hst K
  case imul => exact az_st_imul act hX hcr hdg hin hro hcal hst K
  case iand => exact az_st_iand act hX hcr hdg hin hro hcal hst K
  case ior => exact az_st_ior act hX hcr hdg hin hro hcal hst K
  case ishl => exact az_st_ishl act hX hcr hdg hin hro hcal hst K
  case ishr => exact az_st_ishr act hX hcr hdg hin hro hcal hst K
  case ineg => exact az_st_ineg act hX hcr hdg hin hro hcal hst K
  case i2c => exact az_st_i2c act hX hcr hdg hin hro hcal hst K
  case i2b => exact az_st_i2b act hX hcr hdg hin hro hcal hst K
  case idiv => exact az_st_idiv act hX hcr hdg hin hro hcal hst K
  case irem => exact az_st_irem act hX hcr hdg hin hro hcal hst K
  case dup => exact az_st_dup act hX hcr hdg hin hro hcal hst K
  case dup2 => exact az_st_dup2 act hX hcr hdg hin hro hcal hst K
  case pop => exact az_st_pop act hX hcr hdg hin hro hcal hst K
  case goto => exact az_st_goto act hX hcr hdg hin hro hcal hst K
  case ifCond => exact az_st_ifCond act hX hcr hdg hin hro hcal hst K
  case if_icmp => exact az_st_if_icmp act hX hcr hdg hin hro hcal hst K
  case tableswitch => exact az_st_tableswitch act hX hcr hdg hin hro hcal hst K
  case lookupswitch => exact az_st_lookupswitch act hX hcr hdg hin hro hcal hst K
  case getfield => exact az_st_getfield act hX hcr hdg hin hro hcal hst K
  case putfield => exact az_st_putfield act hX hcr hdg hin hro hcal hst K
  case getstatic => exact az_st_getstatic act hX hcr hdg hin hro hcal hst K
  case arraylength => exact az_st_arraylength act hX hcr hdg hin hro hcal hst K
  case iaload => exact az_st_iaload act hX hcr hdg hin hro hcal hst K
  case baload => exact az_st_baload act hX hcr hdg hin hro hcal hst K
  case caload => exact az_st_caload act hX hcr hdg hin hro hcal hst K
  case iastore => exact az_st_iastore act hX hcr hdg hin hro hcal hst K
  case bastore => exact az_st_bastore act hX hcr hdg hin hro hcal hst K
  case invokestatic => exact az_st_invokestatic act hX hcr hdg hin hro hcal hst K
  all_goals (simp [az_stp] at hst)
end AZP
end
section
/-! THE ABSTRACT MACHINE IS SOUND: what az_ev answers, the machine answers -/
def az_Pc (D : va_G) (ad : Nat → Nat) (cA : Nat → ClassId) (fo : Value) (sc : az_S) (a : List Value) (h : az_H) (sz : Nat) : Array Value → State → Prop := va_Pc (a.map (az_cv ad fo)) (fun U => U.heap.size = sz ∧ va_P D vwCl (az_ws ad cA h) U.heap ∧ va_D (fun _ => True) (az_ws ad cA h) ∧ az_X D ad cA fo sc (az_A ad sz) U U.heap)
def az_Qc (D : va_G) (ad : Nat → Nat) (cA : Nat → ClassId) (fo : Value) (v : Option Value) (h1 : az_H) (sz : Nat) : Array Value → State → Outcome → State → Prop := fun _ st o t => o = .returned (v.map (az_cv ad fo)) ∧ va_P D vwCl (az_ws ad cA h1) t.heap ∧ va_F (az_A ad sz) st t
/-- what a method returns is of its type -/
def az_retok (M : az_M) : Bool := (az_cd M).all fun q => match q.2.1 with
  | .return_ => (match az_rt M with
    | none => true
    | _ => false)
  | .areturn => (match az_rt M with
    | some (.object _) => true
    | _ => false)
  | _ => true
theorem az_rk_0 : (az_ml_0).all (fun q => az_retok q.2.2.1) = true := by decide +kernel
theorem az_rk_1 : (az_ml_1).all (fun q => az_retok q.2.2.1) = true := by decide +kernel
theorem az_rk_2 : (az_ml_2).all (fun q => az_retok q.2.2.1) = true := by decide +kernel
theorem az_rk_3 : (az_ml_3).all (fun q => az_retok q.2.2.1) = true := by decide +kernel
theorem az_rk_4 : (az_ml_4).all (fun q => az_retok q.2.2.1) = true := by decide +kernel
theorem az_rk_5 : (az_ml_5).all (fun q => az_retok q.2.2.1) = true := by decide +kernel
theorem az_rk_6 : (az_ml_6).all (fun q => az_retok q.2.2.1) = true := by decide +kernel
theorem az_rk_7 : (az_ml_7).all (fun q => az_retok q.2.2.1) = true := by decide +kernel
theorem az_rk_8 : (az_ml_8).all (fun q => az_retok q.2.2.1) = true := by decide +kernel
theorem az_rk_9 : (az_ml_9).all (fun q => az_retok q.2.2.1) = true := by decide +kernel
theorem az_rk_10 : (az_ml_10).all (fun q => az_retok q.2.2.1) = true := by decide +kernel
theorem az_rk_11 : (az_ml_11).all (fun q => az_retok q.2.2.1) = true := by decide +kernel
theorem az_rk_15 : (az_ml_15).all (fun q => az_retok q.2.2.1) = true := by decide +kernel
theorem az_rk {c k tag na : Nat} {C : az_M} (h : az_ml c k = some (tag, C, na)) : az_retok C = true := by
  unfold az_ml at h
  split at h
  · exact List.all_eq_true.mp az_rk_0 _ (az_pool_in h)
  · exact List.all_eq_true.mp az_rk_1 _ (az_pool_in h)
  · exact List.all_eq_true.mp az_rk_2 _ (az_pool_in h)
  · exact List.all_eq_true.mp az_rk_3 _ (az_pool_in h)
  · exact List.all_eq_true.mp az_rk_4 _ (az_pool_in h)
  · exact List.all_eq_true.mp az_rk_5 _ (az_pool_in h)
  · exact List.all_eq_true.mp az_rk_6 _ (az_pool_in h)
  · exact List.all_eq_true.mp az_rk_7 _ (az_pool_in h)
  · exact List.all_eq_true.mp az_rk_8 _ (az_pool_in h)
  · exact List.all_eq_true.mp az_rk_9 _ (az_pool_in h)
  · exact List.all_eq_true.mp az_rk_10 _ (az_pool_in h)
  · exact List.all_eq_true.mp az_rk_11 _ (az_pool_in h)
  · exact List.all_eq_true.mp az_rk_15 _ (az_pool_in h)
  · cases h
def az_wsM (M : az_M) : List Cond := .code (az_y M) (az_by M) (az_nl M) (az_rt M) :: az_wg
def az_rm (M : az_M) : Room := { frames := az_fr M, cells := 0, slots := 0, locals := az_lo M }
theorem az_ws_of {ad : Nat → Nat} {cA : Nat → ClassId} {h : az_H} {k : Nat} {q : Nat × va_E} (hq : (az_ws ad cA h)[k]? = some q) : k < 78 ∧ q.1 = ad k ∧ ∀ h', ∃ q', (az_ws ad cA h')[k]? = some q' ∧ q'.1 = ad k := by
  cases hk : az_wd[k]? with
  | none => rw [az_ws_none hk] at hq; cases hq
  | some kd =>
    rw [az_ws_at hk] at hq
    cases hq
    exact ⟨(List.getElem?_eq_some_iff.mp hk).1, rfl, fun h' => ⟨_, az_ws_at hk, rfl⟩⟩
theorem az_D_h {ad : Nat → Nat} {cA : Nat → ClassId} {h h' : az_H} {A : Nat → Prop} (hD : va_D A (az_ws ad cA h)) : va_D A (az_ws ad cA h') := by
  refine ⟨fun i j x y hx hy hxy => ?_, fun k q hq => ?_⟩
  · obtain ⟨-, e1, k1⟩ := az_ws_of hx
    obtain ⟨-, e2, k2⟩ := az_ws_of hy
    obtain ⟨x', hx', e3⟩ := k1 h
    obtain ⟨y', hy', e4⟩ := k2 h
    exact hD.1 i j x' y' hx' hy' (by rw [e3, e4, ← e1, ← e2, hxy])
  · obtain ⟨-, e1, k1⟩ := az_ws_of hq
    obtain ⟨q', hq', e3⟩ := k1 h
    rw [e1, ← e3]
    exact hD.2 k q' hq'
theorem az_D_A {ad : Nat → Nat} {cA : Nat → ClassId} {h : az_H} {A : Nat → Prop} {sz : Nat} (hD : va_D A (az_ws ad cA h)) : va_D (az_A ad sz) (az_ws ad cA h) :=
  ⟨hD.1, fun k q hq => Or.inl ⟨k, (az_ws_of hq).1, (az_ws_of hq).2.1⟩⟩
theorem az_A_sub {ad : Nat → Nat} {cA : Nat → ClassId} {h : az_H} {A : Nat → Prop} {sz sz0 : Nat} (hD : va_D A (az_ws ad cA h)) (hA : ∀ q, sz0 ≤ q → A q) (hz : sz0 ≤ sz) : ∀ q, az_A ad sz q → A q := by
  rintro q (⟨k, hk, rfl⟩ | hq)
  · have hlt : k < az_wd.length := hk
    have := az_ws_at (ad := ad) (cA := cA) (h := h) (List.getElem?_eq_getElem hlt)
    exact hD.2 k _ this
  · exact hA q (Nat.le_trans hz hq)
theorem az_blind {D : va_G} {ad : Nat → Nat} {cA : Nat → ClassId} {fo : Value} {sc : az_S} {a : List Value} {h : az_H} {sz : Nat} : FrameBlind (az_Pc D ad cA fo sc a h sz) := by
  intro v U g mk q
  obtain ⟨q0, q1, q2, q3, q4⟩ := q
  exact ⟨q0, q1, q2, q3, az_X.vm (s := U) (U := U.calling g mk v) rfl q4⟩
theorem az_pop_ok : ∀ (k : Nat) (acc st : List Value) (a r : List Value), az_pop k acc st = some (a, r) → ∃ b, b.length = k ∧ st = b ++ r ∧ a = b.reverse ++ acc
  | 0, acc, st, a, r, h => by
    simp only [az_pop, Option.some.injEq, Prod.mk.injEq] at h
    obtain ⟨rfl, rfl⟩ := h
    exact ⟨[], rfl, rfl, rfl⟩
  | k + 1, acc, [], a, r, h => by simp [az_pop] at h
  | k + 1, acc, v :: st, a, r, h => by
    obtain ⟨b, h1, h2, h3⟩ := az_pop_ok k (v :: acc) st a r h
    exact ⟨v :: b, by rw [List.length_cons, h1], by rw [h2]; rfl, by rw [h3]; simp⟩
theorem az_cats {ad : Nat → Nat} {fo : Value} (hf : fo = .null ∨ ∃ t, fo = .ref t) : ∀ r : List Value, ((r.map (az_cv ad fo)).map fun v => v.category).sum = r.length
  | [] => rfl
  | a :: t => by simp only [List.map_cons, List.sum_cons, az_cats hf t, az_cv_cat hf, List.length_cons]; omega
theorem az_tagd_ok {v : Bool} {o : Option (Nat × az_M × Nat)} {tag k : Nat} {C : az_M} (h : az_tagd v o = some (tag, C, k)) : o = some (tag, C, k) ∧ (if v then tag < 2 else 2 ≤ tag) := by
  cases o with
  | none => simp [az_tagd] at h
  | some q =>
    obtain ⟨t, C9, k9⟩ := q
    simp only [az_tagd] at h
    cases hb : (bif v then Nat.blt t 2 else Nat.ble 2 t) with
    | false => simp only [hb, cond_false] at h; cases h
    | true =>
      simp only [hb, cond_true, Option.some.injEq, Prod.mk.injEq] at h
      obtain ⟨rfl, rfl, rfl⟩ := h
      refine ⟨rfl, ?_⟩
      cases v with
      | true => exact Nat.le_of_ble_eq_true hb
      | false => exact Nat.le_of_ble_eq_true hb
section AZQ
variable {p : Program} {l : Launch} {e : Env} {R : Room} {s : State} {m : MethodId} {args : Array Value} {below : List Frame} {meth : Method} {c : Code} {cells slots : Nat} {Q : State → Prop} {D : va_G} {ad : Nat → Nat} {cA : Nat → ClassId} {fo : Value} {sc : az_S} {A : Nat → Prop} {M : az_M}
/-- behind a call -/
theorem az_on {H : Heap} {locs : List Loc} {pc : Nat} {lsA : Array Slot} {st0 : List Value} {ls r : List Value} {h hc1 : az_H} {vc : Option Value} {aa : Array Value} (hA : ∀ q, s.heap.size ≤ q → A q) (hD : va_D A (az_ws ad cA h)) (hS : va_S A s.heap H locs) (hM : az_Mt ad fo (az_nl M) lsA ls)
    (hr : va_Run p l e R s m args below meth c H locs cells slots 0 0 (F0 m pc lsA st0) (r.map (az_cv ad fo)) (az_Qc D ad cA fo vc hc1 H.size aa) (az_A ad H.size))
    (K : az_St p l e R s m args below meth c cells slots Q D ad cA fo A (az_nl M) (pc + 3) ls (vc.toList ++ r) hc1) : W p l e R s m args below meth c H locs cells slots Q (F0 m pc lsA st0) := by
  intro T hT X
  obtain ⟨v, st₀, t, T', L, h0, X', hL, e1, e2, ⟨hv, hP1, hz, hk⟩, st⟩ := hr T hT X
  cases hv
  rw [h0] at hz hk
  have hsub := az_A_sub (sz := H.size) hD hA hS.1
  have hS1 : va_S A s.heap T'.heap (locs ++ L) := ⟨Nat.le_trans hS.1 (by rw [e1]; exact hz), fun q h1 h2 => by
      rw [e1, hk q (Nat.lt_of_lt_of_le h1 hS.1) (fun z => h2 (hsub q z))]
      exact hS.2.1 q h1 h2, fun q hq => by
      rcases List.mem_append.mp hq with h | h
      · exact hS.2.2 q h
      · exact hsub _ (hL q h)⟩
  obtain ⟨t2, a1, b1⟩ := K T'.heap (locs ++ L) lsA (by rw [e1]; exact hP1) (az_D_h hD) hS1 hM T' rfl X'
  refine ⟨t2, st t2 ?_, b1⟩
  have e9 : (vc.map (az_cv ad fo)).toList ++ r.map (az_cv ad fo) = (vc.toList ++ r).map (az_cv ad fo) := by cases vc <;> rfl
  rw [e9]
  exact a1
theorem az_pre {H : Heap} {locs : List Loc} {a : List Value} {h : az_H} (hA : ∀ q, s.heap.size ≤ q → A q) (hX : az_X D ad cA fo sc A s s.heap) (hP : va_P D vwCl (az_ws ad cA h) H) (hD : va_D A (az_ws ad cA h)) (hS : va_S A s.heap H locs) : PreS s H (az_Pc D ad cA fo sc a h H.size) (a.map (az_cv ad fo)) := by
  refine ⟨az_blind, fun U hU hW => ⟨rfl, by rw [hU], by rw [hU]; exact hP, hD.weaken (fun _ _ _ _ => trivial), ?_⟩⟩
  rw [hU]
  exact az_X.moved hW (az_X.narrow (az_X.kept hX hS.1 hS.2.1) (az_A_sub hD hA hS.1))
theorem az_recv {H : Heap} {locs : List Loc} {h : az_H} {k ci : Nat} (hX : az_X D ad cA fo sc A s s.heap) (hP : va_P D vwCl (az_ws ad cA h) H) (hS : va_S A s.heap H locs) (hk : az_isA k ci = true) : ∃ cell : Cell, H[ad k]? = some cell ∧ cell.vm.isStatics = false ∧ s.vm.findClass (az_own ci) = some cell.cls := by
  unfold az_isA at hk
  split at hk
  · rename_i c9 fs hw
    obtain rfl := Nat.eq_of_beq_eq_true hk
    obtain ⟨hci, -, -⟩ := az_wok_obj hw
    obtain ⟨hc, -⟩ := az_clp_ok _ hci
    exact va_recv hX.1 hP hc (az_ws_at hw)
  · cases hk
  · simp only [Bool.and_eq_true, az_isT] at hk
    obtain rfl := Nat.eq_of_beq_eq_true hk.1
    obtain ⟨i9, hi9, hq9, -⟩ := az_txi ⟨Nat.le_of_ble_eq_true hk.2.1, Nat.le_of_ble_eq_true hk.2.2⟩
    rw [hq9]
    have := vk_recv (adK := fun j => ad (1000 + j)) (i := i9) hX.2.2.2.2.1 hi9 hS
    exact this
theorem az_call {i : Instr} {n tag k pc : Nat} {C : az_M} {ls st a r : List Value} {h hc1 : az_H} {vc : Option Value} (act : az_act p R s m args c M) (hX : az_X D ad cA fo sc A s s.heap) (hA : ∀ q, s.heap.size ≤ q → A q) (hcr : cells ≤ R.cells ∧ slots ≤ R.slots) (hdg : decode (az_by M) pc = .ok (i, n)) (hin : az_insok pc i n = true) (hro : az_room M i = true) (hcal : az_cal M i = some (tag, C, k)) (hp : az_pop k [] st = some (a, r)) (hv : (az_rcv C tag a && Nat.ble r.length 8) = true)
    (hMet : ∀ sz, Met l (az_y C) (az_wsM C) (az_rm C) (az_Pc D ad cA fo sc a h sz) (az_Qc D ad cA fo vc hc1 sz) 0 0 (az_A ad sz))
    (K : az_St p l e R s m args below meth c cells slots Q D ad cA fo A (az_nl M) (pc + n) ls (vc.toList ++ r) hc1) : az_St p l e R s m args below meth c cells slots Q D ad cA fo A (az_nl M) pc ls st h := by
  intro H locs lsA hP hD hS hM
  obtain ⟨hx, hb, hml, hown, hts, hfr, hlo⟩ := act
  obtain ⟨b, hbl, rfl, hab⟩ := az_pop_ok k [] st a r hp
  rw [List.append_nil] at hab
  have hf := hX.2.2.2.2.2.2.2.2
  simp only [Bool.and_eq_true] at hv
  have hr8 := Nat.le_of_ble_eq_true hv.2
  have hroom : az_fr C + 1 ≤ az_fr M ∧ 8 + (az_nl C + 11) + az_lo C ≤ az_lo M ∧ k ≤ az_nl C := by
    simp only [az_room, hcal, Bool.and_eq_true] at hro
    exact ⟨Nat.le_of_ble_eq_true hro.1, Nat.le_of_ble_eq_true hro.2.1, Nat.le_of_ble_eq_true hro.2.2⟩
  have hR : (az_rm C).frames + 1 ≤ R.frames ∧ 8 + (az_nl C + 11) + (az_rm C).locals ≤ R.locals := ⟨Nat.le_trans hroom.1 hfr, Nat.le_trans hroom.2.1 hlo⟩
  have hWr : 2 * (F0 m pc lsA ((b ++ r).map (az_cv ad fo))).monitorRoom + ((r.map (az_cv ad fo)).map fun v => v.category).sum ≤ 8 := lv_room (by rw [az_cats hf]; exact hr8)
  have hcc : cells + 0 ≤ R.cells ∧ slots + 0 ≤ R.slots := hcr
  have hpre := az_pre (a := a) (h := h) hA hX hP hD hS
  have hsz : lsA.size = az_nl M := hM.1
  have hal : a.length = k := by rw [hab, List.length_reverse, hbl]
  have stk : ((b ++ r).map (az_cv ad fo)) = (a.map (az_cv ad fo)).reverse ++ r.map (az_cv ad fo) := by rw [hab]; simp
  have main : ∀ idx, az_ml M.1 idx = some (tag, C, k) → (i = .invokevirtual idx ∧ tag < 2 ∨ i = .invokestatic idx ∧ 2 ≤ tag) → W p l e R s m args below meth c H locs cells slots Q (F0 m pc lsA ((b ++ r).map (az_cv ad fo))) := by
    intro idx hmx hi
    obtain ⟨np, stc, ⟨w1, w2, w3, w4, w5, w6, w7, w8, w9, -⟩, hlink⟩ := az_ml_ok hmx
    have hG : GoodIn az_wg (az_wsM C) := az_wg_good (fun w hw => by rcases List.mem_cons.mp hw with rfl | hw; exact w1; exact hw)
    have hn3 : n = 3 := by rcases hi with ⟨rfl, -⟩ | ⟨rfl, -⟩ <;> exact Nat.eq_of_beq_eq_true hin
    subst hn3
    have virt : ∀ (hi9 : i = .invokevirtual idx) (hst : stc = false) (hna : k = np + 1) (hl : Cond.methodLink (az_own M.1) idx (az_y C) ∈ az_wg ∨ ∃ host, Cond.methodLinkNest (az_own M.1) idx (az_y C) host ∈ az_nest) (ht2 : tag < 2), W p l e R s m args below meth c H locs cells slots Q (F0 m pc lsA ((b ++ r).map (az_cv ad fo))) := by
      intro hi9 hst hna hl ht2
      subst hi9
      obtain ⟨w81, w82⟩ := w8 hst
      have hrc := hv.1
      unfold az_rcv at hrc
      split at hrc
      · rename_i k9 as9
        have h29 : Nat.ble 2 tag = false := by
          cases hb9 : Nat.ble 2 tag with
          | false => rfl
          | true => exact absurd (Nat.le_of_ble_eq_true hb9) (by omega)
        rw [h29, Bool.false_or] at hrc
        have hrecv := az_recv hX hP hS hrc
        rw [← w4] at hrecv
        have hn : (as9.map (az_cv ad fo)).length = np := by
          rw [List.length_map]
          rw [List.length_cons] at hal
          omega
        have stk9 : ((b ++ r).map (az_cv ad fo)) = (as9.map (az_cv ad fo)).reverse ++ .ref (ad k9) :: r.map (az_cv ad fo) := by
          rw [stk]
          simp [az_cv]
        have hp9 : PreV s H (az_y C).cls (ad k9) (az_Pc D ad cA fo sc (.ref k9 :: as9) h H.size) (as9.map (az_cv ad fo)) := ⟨hpre.1, hrecv, hpre.2⟩
        rcases hl with hl | ⟨host, hl⟩
        · have cw := cwV (R := R) (s := s) (args := args) (Ts := az_wg) (own := az_own M.1) (index := idx) (C := (az_y C).cls) (y := az_y C) (bytes := az_by C) (maxL := az_nl C) (ret := az_rt C) (ws := az_wsM C) (ws' := az_wg) (rm := az_rm C) (mc := 0) (ms := 0) np hts (az_wg_good (fun w hw => by
            rcases List.mem_append.mp (show w ∈ [Cond.methodLink (az_own M.1) idx (az_y C), .instanceMethod (az_y C), .selects (az_y C).cls (az_y C) (az_y C), .initialized (az_y C).cls] ++ az_wsM C from hw) with hw | hw
            · simp only [List.mem_cons, List.not_mem_nil, or_false] at hw
              rcases hw with rfl | rfl | rfl | rfl
              · exact hl
              · exact w81
              · exact w82
              · exact w2
            · exact (hG w hw).1)) rfl rfl rfl ⟨rfl, w5, w6, w3⟩ hR
          exact az_on hA hD hS hM (va_runV (As := as9.map (az_cv ad fo)) (rest := r.map (az_cv ad fo)) ⟨hx, hb, hml, hown, hts⟩ (hMet H.size) cw hp9 rfl hn hsz stk9 hWr hdg hcc) K
        · have cw := va_cnB (R := R) (s := s) (args := args) (Ts := az_wg) (own := az_own M.1) (host := host) (index := idx) (y := az_y C) (bytes := az_by C) (maxL := az_nl C) (ret := az_rt C) (ws := az_wsM C) (ws' := az_wg) (rm := az_rm C) (mc := 0) (ms := 0) np hts hG rfl rfl rfl (hX.2.1 _ hl) (hts _ w2) ⟨w5, w6, w3⟩ hR
          exact az_on hA hD hS hM (va_runVN (As := as9.map (az_cv ad fo)) (rest := r.map (az_cv ad fo)) ⟨hx, hb, hml, hown, hts⟩ (hMet H.size) ⟨cw, hts _ w81, hts _ w82⟩ hp9 rfl hn hsz stk9 hWr hdg hcc) K
      · exact absurd (Nat.le_of_ble_eq_true hrc) (by omega)
    have stat : ∀ (hi9 : i = .invokestatic idx) (hst : stc = true) (hna : k = np) (hl : Cond.methodLink (az_own M.1) idx (az_y C) ∈ az_wg ∨ ∃ host, Cond.methodLinkNest (az_own M.1) idx (az_y C) host ∈ az_nest), W p l e R s m args below meth c H locs cells slots Q (F0 m pc lsA ((b ++ r).map (az_cv ad fo))) := by
      intro hi9 hst hna hl
      subst hi9
      have hn : (a.map (az_cv ad fo)).length = np := by rw [List.length_map, hal, hna]
      rcases hl with hl | ⟨host, hl⟩
      · have cw := callB_of (R := R) (s := s) (args := args) (Ts := az_wg) (own := az_own M.1) (index := idx) (y := az_y C) (bytes := az_by C) (maxL := az_nl C) (ret := az_rt C) (ws := az_wsM C) (ws' := az_wg) (rm := az_rm C) (mc := 0) (ms := 0) np hts hG rfl rfl rfl (hts _ w2) (hts _ hl) ⟨w5, w6, w3⟩ hR
        exact az_on hA hD hS hM (va_runS (As := a.map (az_cv ad fo)) (rest := r.map (az_cv ad fo)) ⟨hx, hb, hml, hown, hts⟩ (hMet H.size) ⟨cw, hts _ (w9 hst)⟩ hpre rfl hn hsz stk hWr hdg hcc) K
      · have cw := va_cnB (R := R) (s := s) (args := args) (Ts := az_wg) (own := az_own M.1) (host := host) (index := idx) (y := az_y C) (bytes := az_by C) (maxL := az_nl C) (ret := az_rt C) (ws := az_wsM C) (ws' := az_wg) (rm := az_rm C) (mc := 0) (ms := 0) np hts hG rfl rfl rfl (hX.2.1 _ hl) (hts _ w2) ⟨w5, w6, w3⟩ hR
        exact az_on hA hD hS hM (va_runSN (As := a.map (az_cv ad fo)) (rest := r.map (az_cv ad fo)) ⟨hx, hb, hml, hown, hts⟩ (hMet H.size) ⟨cw, hts _ (w9 hst), trivial⟩ hpre rfl hn hsz stk hWr hdg hcc) K
    rcases hlink with ⟨q1, q2, q3, q4⟩ | ⟨q1, q2, q3, q4⟩ | ⟨q1, q2, q3, q4⟩ | ⟨q1, q2, q3, q4⟩
    · rcases hi with ⟨hi, -⟩ | ⟨-, hi⟩
      · exact virt hi q2 q3 (Or.inl q4) (by omega)
      · omega
    · rcases hi with ⟨hi, -⟩ | ⟨-, hi⟩
      · exact virt hi q2 q3 (Or.inr q4) (by omega)
      · omega
    · rcases hi with ⟨-, hi⟩ | ⟨hi, -⟩
      · omega
      · exact stat hi q2 q3 (Or.inl q4)
    · rcases hi with ⟨-, hi⟩ | ⟨hi, -⟩
      · omega
      · exact stat hi q2 q3 (Or.inr q4)
  cases i
  case invokevirtual idx =>
    obtain ⟨h1, h2⟩ := az_tagd_ok (show az_tagd true (az_ml M.1 idx) = some (tag, C, k) from hcal)
    exact main idx h1 (Or.inl ⟨rfl, by simpa using h2⟩)
  case invokestatic idx =>
    obtain ⟨h1, h2⟩ := az_tagd_ok (show az_tagd false (az_ml M.1 idx) = some (tag, C, k) from hcal)
    exact main idx h1 (Or.inr ⟨rfl, by simpa using h2⟩)
  all_goals (simp [az_cal] at hcal)
end AZQ
/-- a return -/
theorem az_end {p : Program} {l : Launch} {e : Env} {R : Room} {s : State} {m : MethodId} {args : Array Value} {below : List Frame} {meth : Method} {c : Code} {D : va_G} {ad : Nat → Nat} {cA : Nat → ClassId} {fo : Value} {A : Nat → Prop} {C : az_M} {i : Instr} {n pc : Nat} {ls st : List Value} {h1 : az_H} {v : Option Value} (hx : p.tables.exec = Jvm.exec) (hb : c.code = az_by C) (hr : meth.sig.returnType = az_rt C) (hlocks : meth.locks = false) (hdg : decode (az_by C) pc = .ok (i, n)) (hin : az_insok pc i n = true) (hret : az_ret C i st = some v) (hro : ∀ q, q = (pc, i, n) → (match q.2.1 with
  | .return_ => (match az_rt C with
    | none => true
    | _ => false)
  | .areturn => (match az_rt C with
    | some (.object _) => true
    | _ => false)
  | _ => true) = true) (hA : A = az_A ad s.heap.size) : az_St p l e R s m args below meth c 0 0 (MQ below (az_Qc D ad cA fo v h1 s.heap.size) args s 0 0 (az_A ad s.heap.size)) D ad cA fo A (az_nl C) pc ls st h1 := by
  intro H locs lsA hP hD hS hM
  subst hA
  have hq : ∀ o, o = .returned (v.map (az_cv ad fo)) → ∀ t : State, t.heap = H → s.WarmedH t.vm → az_Qc D ad cA fo v h1 s.heap.size args s o t := fun o ho t ht _ => ⟨ho, by rw [ht]; exact hP, hS.F ht⟩
  unfold az_ret at hret
  split at hret
  · rename_i x
    cases hk : az_rok (az_rt C) x with
    | false => simp only [hk, cond_false] at hret; cases hret
    | true =>
      simp only [hk, cond_true, Option.some.injEq] at hret
      subst hret
      obtain rfl : n = 1 := Nat.eq_of_beq_eq_true hin
      cases hrt : az_rt C with
      | none => rw [hrt] at hk; simp [az_rok] at hk
      | some ty =>
        rw [hrt] at hk hr
        cases ty
        case int => exact W.iret hx hb hr (hq _ rfl) hS.2.2 hdg hlocks
        case boolean =>
          refine W.zret hx hb hr ?_ (hq _ rfl) hS.2.2 hdg hlocks
          simp only [az_rok, Bool.or_eq_true, beq_iff_eq] at hk
          rcases hk with rfl | rfl <;> rfl
        case byte => exact W.zret hx hb hr (of_decide_eq_true hk) (hq _ rfl) hS.2.2 hdg hlocks
        case char => exact W.zret hx hb hr (of_decide_eq_true hk) (hq _ rfl) hS.2.2 hdg hlocks
        all_goals (simp [az_rok] at hk)
  · rename_i k
    simp only [Option.some.injEq] at hret
    subst hret
    obtain rfl : n = 1 := Nat.eq_of_beq_eq_true hin
    have h9 := hro _ rfl
    cases hrt : az_rt C with
    | none => simp [hrt] at h9
    | some ty =>
      rw [hrt] at hr
      cases ty
      case object nm => exact W.aret hx hb hr (Or.inl ⟨nm, rfl⟩) (Or.inr ⟨_, rfl⟩) (hq _ rfl) hS.2.2 hdg hlocks
      all_goals (simp [hrt] at h9)
  · simp only [Option.some.injEq] at hret
    subst hret
    obtain rfl : n = 1 := Nat.eq_of_beq_eq_true hin
    have h9 := hro _ rfl
    cases hrt : az_rt C with
    | none =>
      rw [hrt] at hr
      exact W.vret hx hb hr (hq _ rfl) hS.2.2 hdg hlocks
    | some ty => simp [hrt] at h9
  · cases hret
theorem az_co_at {M : az_M} (hcd : az_codeok M = true) {pc : Nat} {i : Instr} {n : Nat} (hl : az_look (az_cd M) pc = some (i, n)) : decode (az_by M) pc = .ok (i, n) ∧ az_insok pc i n = true ∧ az_room M i = true := by
  have h := List.all_eq_true.mp hcd _ (az_look_in hl)
  simp only [Bool.and_eq_true] at h
  exact ⟨of_decide_eq_true h.1, h.2.1, h.2.2⟩
/-- THE ABSTRACT MACHINE IS SOUND: from where it stands the machine comes to the return that it comes to -/
theorem az_sound (l : Launch) {D : va_G} {ad : Nat → Nat} {cA : Nat → ClassId} {fo : Value} {sc : az_S} : ∀ (f : Nat) (M : az_M), az_codeok M = true → ∀ (pc : Nat) (ls st : List Value) (h : az_H) (v : Option Value) (h1 : az_H), az_ev sc f M pc ls st h = some (v, h1) →
    ∀ {p : Program} {e : Env} {R : Room} {s : State} {m : MethodId} {args : Array Value} {below : List Frame} {meth : Method} {c : Code} {cells slots : Nat} {Q : State → Prop} {A : Nat → Prop}, az_act p R s m args c M → az_X D ad cA fo sc A s s.heap → (∀ q, s.heap.size ≤ q → A q) → cells ≤ R.cells ∧ slots ≤ R.slots →
    (∀ (pc' : Nat) (ls' st' : List Value) (i : Instr) (n : Nat), az_look (az_cd M) pc' = some (i, n) → az_ret M i st' = some v → az_St p l e R s m args below meth c cells slots Q D ad cA fo A (az_nl M) pc' ls' st' h1) →
    az_St p l e R s m args below meth c cells slots Q D ad cA fo A (az_nl M) pc ls st h := by
  intro f
  induction f with
  | zero => intro M hcd pc ls st h v h1 e; simp [az_ev] at e
  | succ f ih =>
    intro M hcd pc ls st h v h1 ev p e R s m args below meth c cells slots Q A act hX hA hcr hret
    rw [az_ev] at ev
    cases hl : az_look (az_cd M) pc with
    | none => simp [hl] at ev
    | some q =>
      obtain ⟨i, n⟩ := q
      obtain ⟨hdg, hin, hro⟩ := az_co_at hcd hl
      simp only [hl] at ev
      cases hc : az_cal M i with
      | none =>
        simp only [hc] at ev
        cases hr : az_ret M i st with
        | some v9 =>
          simp only [hr, Option.some.injEq, Prod.mk.injEq] at ev
          obtain ⟨rfl, rfl⟩ := ev
          exact hret pc ls st i n hl hr
        | none =>
          simp only [hr] at ev
          cases hs : az_stp sc M i n pc ls st h with
          | none => simp [hs] at ev
          | some K =>
            obtain ⟨pc', ls', st', h'⟩ := K
            simp only [hs] at ev
            exact az_stp_ok act hX hcr hdg hin hro hc hs (ih M hcd pc' ls' st' h' v h1 ev act hX hA hcr hret)
      | some t =>
        obtain ⟨tag, C, k⟩ := t
        simp only [hc] at ev
        cases hp : az_pop k [] st with
        | none => simp [hp] at ev
        | some ar =>
          obtain ⟨a, r⟩ := ar
          simp only [hp] at ev
          cases hb9 : (az_rcv C tag a && Nat.ble r.length 8) with
          | false => simp [hb9] at ev
          | true =>
            simp only [hb9, cond_true] at ev
            cases h9 : az_ev sc f C 0 a [] h with
            | none => simp [h9] at ev
            | some vh =>
              obtain ⟨vc, hc1⟩ := vh
              simp only [h9] at ev
              refine az_call act hX hA hcr hdg hin hro hc hp hb9 (hc1 := hc1) (vc := vc) ?_ (ih M hcd (pc + n) ls (vc.toList ++ r) hc1 v h1 ev act hX hA hcr hret)
              have hml : ∃ c9 k9, az_ml c9 k9 = some (tag, C, k) := by
                cases i
                case invokevirtual idx => exact ⟨_, _, (az_tagd_ok (show az_tagd true (az_ml M.1 idx) = some (tag, C, k) from hc)).1⟩
                case invokestatic idx => exact ⟨_, _, (az_tagd_ok (show az_tagd false (az_ml M.1 idx) = some (tag, C, k) from hc)).1⟩
                all_goals (simp [az_cal] at hc)
              obtain ⟨c9, k9, hml⟩ := hml
              obtain ⟨np, stc, ⟨w1, w2, w3, w4, w5, w6, w7, w8, w9, w10⟩, -⟩ := az_ml_ok hml
              have hk : k ≤ az_nl C := by
                simp only [az_room, hc, Bool.and_eq_true] at hro
                exact Nat.le_of_ble_eq_true hro.2.2
              have hal : a.length ≤ az_nl C := by
                obtain ⟨b, hb1, -, hb2⟩ := az_pop_ok k [] st a r hp
                rw [hb2, List.append_nil, List.length_reverse, hb1]
                exact hk
              intro sz
              refine Met.ofW (cc := az_by C) (maxL := az_nl C) (ret := az_rt C) w7 rfl ?_
              intro p2 e2 s2 m2 args2 below2 meth2 c2 s₁ B hml2 hv
              obtain ⟨rfl, hsz, hP, hD0, hX2⟩ := hv
              have hts := atoms_spec (ws := az_wsM C) B.pre
              have hown : s2.vm.findClass (az_own C.1) = some m2.cls := by rw [← w4]; exact findClass_of_methodNamed B.named
              subst hsz
              obtain ⟨lsA, he, hMt⟩ := az_entry hX2.2.2.2.2.2.2.2.2 hal m2
              have hact : az_act p2 (headSpec (az_wsM C) (az_rm C)).room s2 m2 ((a.map (az_cv ad fo)).toArray) c2 C := ⟨B.exec, B.bytes, hml2, hown, fun w hw => hts w (List.mem_cons_of_mem _ hw), Nat.le_refl _, Nat.le_refl _⟩
              rw [he]
              refine ih C w10 0 a [] h vc hc1 h9 hact hX2 (fun q hq => Or.inr hq) ⟨Nat.zero_le _, Nat.zero_le _⟩ ?_ s2.heap [] lsA hP (az_D_A hD0) va_S.rf hMt
              intro pc' ls' st' i' n' hl' hr'
              obtain ⟨hdg', hin', -⟩ := az_co_at w10 hl'
              have hrk := List.all_eq_true.mp (az_rk hml) _ (az_look_in hl')
              exact az_end B.exec B.bytes B.returns B.notSynchronized hdg' hin' hr' (fun q hq => by rw [hq]; exact hrk) rfl
end
section
/-! THE VALUES: a town is a row of numbers, place by place as the reference's row 'now'; what it does -/
def sq_ag (τ : Nat → Nat) (k : Nat) : Nat := if k ≤ τ 4 then τ (59 + k) else τ 2
def sq_pp (τ : Nat → Nat) : Nat → Nat
  | 0 => 0
  | n + 1 => sq_pp τ n + τ (10 + 6 * n)
def sq_sm (τ : Nat → Nat) : Nat → Nat
  | 0 => 0
  | n + 1 => sq_sm τ n + sq_ag τ (n + 1)
def sq_mx (x y : Int32) : Int32 := if x < y then y else x
def sq_mn (x y : Int32) : Int32 := if y < x then y else x
def sq_fo (τ : Nat → Nat) (kind span : Nat) : Int32 := match kind with
  | 0 => nI (sq_ag τ span)
  | 1 => sq_mx 0 (nI (sq_pp τ (τ 0)) - nI (sq_ag τ span))
  | 2 => nI (sq_sm τ span) / nI span
  | 3 => sq_mx 0 (2 * nI (sq_ag τ 1) - nI (sq_ag τ span))
  | 4 => sq_mx 0 (nI (sq_sm τ span) / nI span - nI span)
  | _ => 10 * nI span
def sq_fb (τ : Nat → Nat) (r : Nat) : Int32 := sq_fo τ (τ (40 + 3 * r)) (τ (41 + 3 * r))
def sq_ok (τ : Nat → Nat) (r : Nat) : Bool := decide (sq_fb τ r ≤ nI (τ 2))
/-- the hat's best among the rules from 'best' on to below r + n -/
def sq_ht (τ : Nat → Nat) : Nat → Nat → Nat → Nat
  | 0, best, _ => best
  | n + 1, best, r => sq_ht τ n (if nI (τ (42 + 3 * best)) < nI (τ (42 + 3 * r)) then r else best) (r + 1)
def sq_hat (τ : Nat → Nat) (from_ : Nat) : Nat := sq_ht τ (τ 1 - (from_ + 1)) from_ (from_ + 1)
def rt_T (b : Nat) (τ : Nat → Nat) (h : az_H) : Prop :=
  (h b 3 = nI (τ 2) ∧ h b 4 = nI (τ 5) ∧ h b 5 = nI (τ 3) ∧ h (b + 1) 6 = nI (τ 0) ∧ h (b + 8) 3 = nI (τ 1) ∧ h (b + 12) 1 = nI (τ 4)) ∧
  (∀ i, i < 4 → h (b + 2) i = nI (τ (10 + 6 * i)) ∧ h (b + 3) i = nI (τ (11 + 6 * i)) ∧ h (b + 4) i = nI (τ (12 + 6 * i)) ∧ h (b + 5) i = nI (τ (13 + 6 * i)) ∧ h (b + 6) i = nI (τ (14 + 6 * i)) ∧ h (b + 7) i = nI (τ (15 + 6 * i))) ∧
  (∀ i, i < 6 → h (b + 9) i = nI (τ (40 + 3 * i)) ∧ h (b + 10) i = nI (τ (41 + 3 * i)) ∧ h (b + 11) i = nI (τ (42 + 3 * i))) ∧
  (∀ i, i < 8 → h (b + 13) i = nI (τ (60 + i)))
def rt_M (c : Nat) (τ : Nat → Nat) (h : az_H) : Prop := ∀ j, j < 70 → h c j = nI (τ j)
def rt_V (τ : Nat → Nat) : Prop := τ 0 ≤ 4 ∧ τ 1 ≤ 6 ∧ τ 2 ≤ 60 ∧ τ 4 ≤ 8 ∧ τ 5 ≤ 9 ∧
  (∀ i, i < 4 → τ (10 + 6 * i) ≤ 9 ∧ τ (11 + 6 * i) < 6 ∧ τ (12 + 6 * i) ≤ 9 ∧ τ (13 + 6 * i) ≤ 9 ∧ τ (14 + 6 * i) ≤ 9 ∧ τ (15 + 6 * i) ≤ 9) ∧
  (∀ i, i < τ 0 → 1 ≤ τ (10 + 6 * i) ∧ (τ (11 + 6 * i) = 2 ∨ τ (11 + 6 * i) = 3 → τ (12 + 6 * i) < τ 1)) ∧
  (∀ i, i < 6 → τ (40 + 3 * i) < 6 ∧ τ (41 + 3 * i) ≤ 6) ∧ (∀ i, i < τ 1 → 1 ≤ τ (41 + 3 * i)) ∧ ∀ i, i < 8 → τ (60 + i) ≤ 60
theorem rt_pp {τ : Nat → Nat} (hV : rt_V τ) : ∀ n, n ≤ 4 → sq_pp τ n ≤ 9 * n
  | 0, _ => Nat.le_refl 0
  | n + 1, h => by
    have h1 := rt_pp hV n (by omega)
    have h2 := (hV.2.2.2.2.2.1 n (by omega)).1
    rw [sq_pp]
    omega
theorem rt_ag {τ : Nat → Nat} (hV : rt_V τ) {k : Nat} (h0 : 1 ≤ k) (hk : k ≤ 8) : sq_ag τ k ≤ 60 := by
  unfold sq_ag
  split
  · have := hV.2.2.2.2.2.2.2.2.2 (k - 1) (by omega)
    rw [show 60 + (k - 1) = 59 + k by omega] at this
    exact this
  · exact hV.2.2.1
theorem nI_1' (a : Nat) : nI a + Int32.ofInt 1 = nI (a + 1) := nI_1 a
/-! the leaves -/
def az_at (n : Nat) (f : Nat → Int32) (i : Int32) : Int32 := if i < 0 then 0 else if nI n ≤ i then 0 else f i.toNatClampNeg
theorem az_vin {i : Int32} {n : Nat} (h0 : ¬ i < 0) (h1 : ¬ nI n ≤ i) (hn : n < 2 ^ 31) : vp_in i n := by
  obtain ⟨j, hj, rfl⟩ := nI_of h0
  refine vp_in_nI ?_ hn
  rw [nI_leI hn hj] at h1
  omega
theorem az_at_in {n j : Nat} {f : Nat → Int32} (hj : j < n) (hn : n < 2 ^ 31) : az_at n f (nI j) = f j := by
  rw [az_at, if_neg (nI_pos (by omega)), if_neg (nI_ge hj hn), nI_clamp (by omega)]
def az_pu (n : Nat) (h : az_H) (k : Nat) (i v : Int32) : az_H := if i < 0 then h else if nI n ≤ i then h else az_up h k i.toNatClampNeg v
theorem az_pu_in {n j k : Nat} {h : az_H} {v : Int32} (hj : j < n) (hn : n < 2 ^ 31) : az_pu n h k (nI j) v = az_up h k j v := by
  rw [az_pu, if_neg (nI_pos (by omega)), if_neg (nI_ge hj hn), nI_clamp (by omega)]
def az_cp (h : az_H) (a b n : Nat) : az_H := fun c => if c = b then (fun j => if j < n then h a j else h b j) else h c
theorem az_up_s {h : az_H} {k j : Nat} {v : Int32} : az_up h k j v k j = v := by simp [az_up, upd]
theorem az_up_n {h : az_H} {k j j' : Nat} {v : Int32} (hj : j' ≠ j) : az_up h k j v k j' = h k j' := by simp [az_up, upd, hj]
theorem az_up_o {h : az_H} {k k' j : Nat} {v : Int32} (hk : k' ≠ k) : az_up h k j v k' = h k' := by simp [az_up, hk]
theorem az_cp_0 {h : az_H} {a b : Nat} : az_cp h a b 0 = h := by
  funext c
  by_cases hc : c = b
  · subst hc; simp [az_cp]
  · simp [az_cp, hc]
theorem az_cp_s {h : az_H} {a b i : Nat} (hab : a ≠ b) : az_up (az_cp h a b i) b i (az_cp h a b i a i) = az_cp h a b (i + 1) := by
  funext c
  by_cases hc : c = b
  · subst hc
    funext j
    by_cases hj : j = i
    · subst hj
      simp [az_up, upd, az_cp, hab]
    · by_cases h1 : j < i
      · simp [az_up, upd, az_cp, hj, h1, show j < i + 1 by omega]
      · simp [az_up, upd, az_cp, hj, h1, show ¬ j < i + 1 by omega]
  · simp [az_up, az_cp, hc]
/-- of a row that may be a 'foretold' -/
def az_puV (n : Nat) (h : az_H) (k : Nat) (i v : Int32) : az_H := if i < 0 then h else if nI n ≤ i then h else az_up h (az_vk k) (az_vj k i.toNatClampNeg) v
set_option maxRecDepth 100000 in
theorem ct_at0 {sc : az_S} {k N : Nat} {i : Int32} {h : az_H} (hw : az_wd[k]? = some (.inr (0, N))) (hN : N < 2 ^ 31) : az_F sc az_m_X7_at [.ref k, .int i] h (some (.int (az_at N (fun j => h (az_vk k) (az_vj k j)) i))) h := by
  refine az_F.of ?_
  refine az_er 1 rfl ?_
  refine az_if_lt rfl rfl (fun c1 => ?_) (fun c1 => ?_)
  · refine az_er 1 rfl ?_
    refine az_eret rfl rfl rfl ?_
    exact ⟨by simp [az_at, *], rfl⟩
  · refine az_er 2 rfl ?_
    refine az_len rfl hw ?_
    refine az_ic_ge rfl rfl (fun c7 => ?_) (fun c7 => ?_)
    · refine az_er 1 rfl ?_
      refine az_eret rfl rfl rfl ?_
      exact ⟨by simp [az_at, *], rfl⟩
    · refine az_er 2 rfl ?_
      refine az_ia0 rfl hw (az_vin c1 c7 hN) ?_
      refine az_er 1 rfl ?_
      refine az_eret rfl rfl rfl ?_
      exact ⟨by simp [az_at, *], rfl⟩
theorem ct_at {sc : az_S} {k N : Nat} {i : Int32} {h : az_H} (hw : az_wd[k]? = some (.inr (0, N))) (hN : N < 2 ^ 31) (hk : k < 75 := by decide) : az_F sc az_m_X7_at [.ref k, .int i] h (some (.int (az_at N (h k) i))) h :=
  (ct_at0 hw hN).eq (by rw [show (fun j => h (az_vk k) (az_vj k j)) = h k from funext fun j => by rw [az_vk_lt hk, az_vj_lt hk]]) rfl
theorem ct_atI {sc : az_S} {k N j : Nat} {i : Int32} {h : az_H} {v : Int32} (hw : az_wd[k]? = some (.inr (0, N))) (hi : i = nI j) (hj : j < N) (hN : N < 2 ^ 31) (hv : h k j = v) (hk : k < 75 := by decide) : az_F sc az_m_X7_at [.ref k, .int i] h (some (.int v)) h := by
  subst hi
  subst hv
  exact (ct_at hw hN hk).eq (by rw [az_at_in hj hN]) rfl
theorem ct_atV {sc : az_S} {k N j : Nat} {i : Int32} {h : az_H} {v : Int32} (hw : az_wd[k]? = some (.inr (0, N))) (hi : i = nI j) (hj : j < N) (hN : N < 2 ^ 31) (hv : h (az_vk k) (az_vj k j) = v) : az_F sc az_m_X7_at [.ref k, .int i] h (some (.int v)) h := by
  subst hi
  subst hv
  exact (ct_at0 hw hN).eq (by rw [az_at_in hj hN]) rfl
set_option maxRecDepth 100000 in
theorem ct_put0 {sc : az_S} {k N : Nat} {i v : Int32} {h : az_H} (hw : az_wd[k]? = some (.inr (0, N))) (hN : N < 2 ^ 31) : az_F sc az_m_X7_put [.ref k, .int i, .int v] h none (az_puV N h k i v) := by
  refine az_F.of ?_
  refine az_er 1 rfl ?_
  refine az_if_lt rfl rfl (fun c1 => ?_) (fun c1 => ?_)
  · refine az_eret rfl rfl rfl ?_
    exact ⟨rfl, by simp [az_puV, *]⟩
  · refine az_er 2 rfl ?_
    refine az_len rfl hw ?_
    refine az_ic_ge rfl rfl (fun c7 => ?_) (fun c7 => ?_)
    · refine az_eret rfl rfl rfl ?_
      exact ⟨rfl, by simp [az_puV, *]⟩
    · refine az_er 3 rfl ?_
      refine az_ias0 rfl hw (az_vin c1 c7 hN) ?_
      refine az_eret rfl rfl rfl ?_
      exact ⟨rfl, by simp [az_puV, *]⟩
theorem ct_put {sc : az_S} {k N : Nat} {i v : Int32} {h : az_H} (hw : az_wd[k]? = some (.inr (0, N))) (hN : N < 2 ^ 31) (hk : k < 75 := by decide) : az_F sc az_m_X7_put [.ref k, .int i, .int v] h none (az_pu N h k i v) :=
  (ct_put0 hw hN).eq rfl (by rw [az_puV, az_pu, az_vk_lt hk, az_vj_lt hk])
theorem ct_putI {sc : az_S} {k N j : Nat} {i v : Int32} {h : az_H} (hw : az_wd[k]? = some (.inr (0, N))) (hi : i = nI j) (hj : j < N) (hN : N < 2 ^ 31) (hk : k < 75 := by decide) : az_F sc az_m_X7_put [.ref k, .int i, .int v] h none (az_up h k j v) := by
  subst hi
  exact (ct_put hw hN hk).eq rfl (az_pu_in hj hN)
theorem ct_putV {sc : az_S} {k N j : Nat} {i v : Int32} {h : az_H} (hw : az_wd[k]? = some (.inr (0, N))) (hi : i = nI j) (hj : j < N) (hN : N < 2 ^ 31) : az_F sc az_m_X7_put [.ref k, .int i, .int v] h none (az_up h (az_vk k) (az_vj k j) v) := by
  subst hi
  exact (ct_put0 hw hN).eq rfl (by rw [az_puV, if_neg (nI_pos (by omega)), if_neg (nI_ge hj hN), nI_clamp (by omega)])
set_option maxRecDepth 100000 in
theorem lp_copyRow {sc : az_S} {ka kb N : Nat} {h : az_H} (hwa : az_wd[ka]? = some (.inr (0, N))) (hwb : az_wd[kb]? = some (.inr (0, N))) (hN : N < 2 ^ 31) (hab : ka ≠ kb) (hka : ka < 75) (hkb : kb < 75) : ∀ (d i : Nat) (x : Int32), i ≤ N → N - i = d → x = nI i → az_E sc az_m_X7_copyRow 2 [.ref ka, .ref kb, .int x] [] (az_cp h ka kb i) (fun v h' => v = none ∧ h' = az_cp h ka kb N) := by
  intro d
  induction d with
  | zero =>
    intro i x hi hd hx
    have he : i = N := by omega
    subst he
    refine az_er 2 rfl ?_
    refine az_len rfl hwa ?_
    refine az_ic_ge rfl rfl (fun c5 => ?_) (fun c5 => absurd (by rw [hx]; exact nI_le (Nat.le_refl _) hN) c5)
    refine az_eret rfl rfl rfl ⟨rfl, rfl⟩
  | succ d ih =>
    intro i x hi hd hx
    have hlt : i < N := by omega
    have hn : ¬ nI N ≤ x := by rw [hx]; exact nI_ge hlt hN
    refine az_er 2 rfl ?_
    refine az_len rfl hwa ?_
    refine az_ic_ge rfl rfl (fun c5 => absurd c5 hn) (fun c5 => ?_)
    refine az_er 2 rfl ?_
    refine az_len rfl hwb ?_
    refine az_ic_ge rfl rfl (fun c11 => absurd c11 hn) (fun c11 => ?_)
    refine az_er 4 rfl ?_
    refine az_ia rfl hwa (by rw [hx]; exact vp_in_nI hlt hN) ?_ hka
    refine az_ias rfl hwb (by rw [hx]; exact vp_in_nI hlt hN) ?_ hkb
    refine az_er 2 rfl ?_
    rw [hx, nI_clamp (by omega), az_cp_s hab]
    exact ih (i + 1) _ (by omega) (by omega) (nI_1' i)
theorem ct_copyRow {sc : az_S} {ka kb N : Nat} {h : az_H} (hwa : az_wd[ka]? = some (.inr (0, N))) (hwb : az_wd[kb]? = some (.inr (0, N))) (hN : N < 2 ^ 31) (hab : ka ≠ kb) (hka : ka < 75 := by decide) (hkb : kb < 75 := by decide) : az_F sc az_m_X7_copyRow [.ref ka, .ref kb] h none (az_cp h ka kb N) := by
  refine az_F.of ?_
  refine az_er 2 rfl ?_
  have := lp_copyRow (sc := sc) (h := h) hwa hwb hN hab hka hkb N 0 0 (Nat.zero_le _) (by omega) rfl
  rw [az_cp_0] at this
  exact this
set_option maxRecDepth 100000 in
theorem ct_quotient {sc : az_S} {x y : Int32} {h : az_H} : az_F sc az_m_X7_quotient [.int x, .int y] h (some (.int (if y ≤ 0 then 0 else x / y))) h := by
  refine az_F.of ?_
  refine az_er 1 rfl ?_
  refine az_if_le rfl rfl (fun c1 => ?_) (fun c1 => ?_)
  · refine az_er 1 rfl ?_
    refine az_eret rfl rfl rfl ?_
    exact ⟨by simp [*], rfl⟩
  · refine az_er 2 rfl ?_
    refine az_div rfl (fun q => by subst q; exact absurd (by decide) c1) ?_
    refine az_er 1 rfl ?_
    refine az_eret rfl rfl rfl ?_
    exact ⟨by simp [*], rfl⟩
set_option maxRecDepth 100000 in
theorem ct_remainder {sc : az_S} {x y : Int32} {h : az_H} : az_F sc az_m_X7_remainder [.int x, .int y] h (some (.int (if y ≤ 0 then 0 else x - x / y * y))) h := by
  refine az_F.of ?_
  refine az_er 1 rfl ?_
  refine az_if_le rfl rfl (fun c1 => ?_) (fun c1 => ?_)
  · refine az_er 1 rfl ?_
    refine az_eret rfl rfl rfl ?_
    exact ⟨by simp [*], rfl⟩
  · refine az_er 2 rfl ?_
    refine az_rem rfl (fun q => by subst q; exact absurd (by decide) c1) ?_
    refine az_er 1 rfl ?_
    refine az_eret rfl rfl rfl ?_
    exact ⟨by simp [*], rfl⟩
set_option maxRecDepth 100000 in
theorem ct_outside {sc : az_S} {x y z : Int32} {h : az_H} : az_F sc az_m_X7_outside [.int x, .int y, .int z] h (some (.int (if y ≤ x then (if x ≤ z then 0 else -6) else -4))) h := by
  refine az_F.of ?_
  refine az_er 2 rfl ?_
  refine az_ic_ge rfl rfl (fun c2 => ?_) (fun c2 => ?_)
  · refine az_er 2 rfl ?_
    refine az_ic_le rfl rfl (fun c10 => ?_) (fun c10 => ?_)
    · refine az_er 1 rfl ?_
      refine az_eret rfl rfl rfl ?_
      exact ⟨by simp [*], rfl⟩
    · refine az_er 2 rfl ?_
      refine az_eret rfl rfl rfl ?_
      exact ⟨by simp [*], rfl⟩
  · refine az_er 1 rfl ?_
    refine az_eret rfl rfl rfl ?_
    exact ⟨by simp [*], rfl⟩
end
section
/-! THE CLASS: a Town is read -/
set_option maxRecDepth 100000 in
theorem ct_X4has_1 {sc : az_S} {τ : Nat → Nat} {h : az_H} (hT : rt_T 1 τ h) (hV : rt_V τ) {x : Int32} : az_F sc az_m_X4_has [.ref 2, .int x] h (some (.int (if x < 0 then 0 else if nI (τ 0) ≤ x then 0 else 1))) h := by
  have e0 : h 2 6 = nI (τ 0) := hT.1.2.2.2.1
  have e1 : h 9 3 = nI (τ 1) := hT.1.2.2.2.2.1
  have e2 : h 1 3 = nI (τ 2) := hT.1.1
  have e4 : h 13 1 = nI (τ 4) := hT.1.2.2.2.2.2
  have b0 : τ 0 ≤ 4 := hV.1
  have b1 : τ 1 ≤ 6 := hV.2.1
  have b2 : τ 2 ≤ 60 := hV.2.2.1
  have b4 : τ 4 ≤ 8 := hV.2.2.2.1
  refine az_F.of ?_
  refine az_er 1 rfl ?_
  refine az_if_lt rfl rfl (fun c1 => ?_) (fun c1 => ?_)
  · refine az_er 1 rfl ?_
    refine az_eret rfl rfl rfl ?_
    exact ⟨by simp [*], rfl⟩
  · refine az_er 3 rfl ?_
    rw [e0]
    refine az_ic_ge rfl rfl (fun c9 => ?_) (fun c9 => ?_)
    · refine az_er 1 rfl ?_
      refine az_eret rfl rfl rfl ?_
      exact ⟨by simp [*], rfl⟩
    · refine az_er 2 rfl ?_
      refine az_eret rfl rfl rfl ?_
      exact ⟨by simp [*], rfl⟩
set_option maxRecDepth 100000 in
theorem ct_X3has_1 {sc : az_S} {τ : Nat → Nat} {h : az_H} (hT : rt_T 1 τ h) (hV : rt_V τ) {x : Int32} : az_F sc az_m_X3_has [.ref 9, .int x] h (some (.int (if x < 0 then 0 else if nI (τ 1) ≤ x then 0 else 1))) h := by
  have e0 : h 2 6 = nI (τ 0) := hT.1.2.2.2.1
  have e1 : h 9 3 = nI (τ 1) := hT.1.2.2.2.2.1
  have e2 : h 1 3 = nI (τ 2) := hT.1.1
  have e4 : h 13 1 = nI (τ 4) := hT.1.2.2.2.2.2
  have b0 : τ 0 ≤ 4 := hV.1
  have b1 : τ 1 ≤ 6 := hV.2.1
  have b2 : τ 2 ≤ 60 := hV.2.2.1
  have b4 : τ 4 ≤ 8 := hV.2.2.2.1
  refine az_F.of ?_
  refine az_er 1 rfl ?_
  refine az_if_lt rfl rfl (fun c1 => ?_) (fun c1 => ?_)
  · refine az_er 1 rfl ?_
    refine az_eret rfl rfl rfl ?_
    exact ⟨by simp [*], rfl⟩
  · refine az_er 3 rfl ?_
    rw [e1]
    refine az_ic_ge rfl rfl (fun c9 => ?_) (fun c9 => ?_)
    · refine az_er 1 rfl ?_
      refine az_eret rfl rfl rfl ?_
      exact ⟨by simp [*], rfl⟩
    · refine az_er 2 rfl ?_
      refine az_eret rfl rfl rfl ?_
      exact ⟨by simp [*], rfl⟩
set_option maxRecDepth 100000 in
theorem lp_people_1 {sc : az_S} {τ : Nat → Nat} {h : az_H} (hT : rt_T 1 τ h) (hV : rt_V τ) : ∀ (d i : Nat) (x y : Int32), i ≤ τ 0 → τ 0 - i = d → x = nI (sq_pp τ i) → y = nI i → az_E sc az_m_X4_people 4 [.ref 2, .int x, .int y] [] h (fun v h' => v = some (.int (nI (sq_pp τ (τ 0)))) ∧ h' = h) := by
  have e0 : h 2 6 = nI (τ 0) := hT.1.2.2.2.1
  have e1 : h 9 3 = nI (τ 1) := hT.1.2.2.2.2.1
  have e2 : h 1 3 = nI (τ 2) := hT.1.1
  have e4 : h 13 1 = nI (τ 4) := hT.1.2.2.2.2.2
  have b0 : τ 0 ≤ 4 := hV.1
  have b1 : τ 1 ≤ 6 := hV.2.1
  have b2 : τ 2 ≤ 60 := hV.2.2.1
  have b4 : τ 4 ≤ 8 := hV.2.2.2.1
  intro d
  induction d with
  | zero =>
    intro i x y hi hd hx hy
    have he : i = τ 0 := by omega
    refine az_er 3 rfl ?_
    refine az_ic_ge rfl rfl (fun c9 => ?_) (fun c9 => absurd (by rw [e0, hy, he]; exact nI_le (Nat.le_refl _) (by omega)) c9)
    refine az_er 1 rfl ?_
    refine az_eret rfl rfl rfl ?_
    exact ⟨by rw [hx, he], rfl⟩
  | succ d ih =>
    intro i x y hi hd hx hy
    have hlt : i < τ 0 := by omega
    refine az_er 3 rfl ?_
    refine az_ic_ge rfl rfl (fun c9 => absurd c9 (by rw [e0, hy]; exact nI_ge hlt (by omega))) (fun c9 => ?_)
    refine az_er 4 rfl ?_
    refine az_ecallF rfl rfl rfl rfl (ct_atI rfl hy (by omega) (by decide) (hT.2.1 i (by omega)).1) ?_
    refine az_er 4 rfl ?_
    exact ih (i + 1) _ _ (by omega) (by omega) (by rw [hx, nI_add]; rfl) (by rw [hy]; exact nI_1' i)
set_option maxRecDepth 100000 in
theorem ct_people_1 {sc : az_S} {τ : Nat → Nat} {h : az_H} (hT : rt_T 1 τ h) (hV : rt_V τ) : az_F sc az_m_X4_people [.ref 2] h (some (.int (nI (sq_pp τ (τ 0))))) h := by
  refine az_F.of ?_
  refine az_er 4 rfl ?_
  exact lp_people_1 hT hV (τ 0) 0 0 0 (Nat.zero_le _) (by omega) rfl rfl
set_option maxRecDepth 100000 in
theorem ct_presentAgo_1 {sc : az_S} {τ : Nat → Nat} {h : az_H} (hT : rt_T 1 τ h) (hV : rt_V τ) {x : Int32} {k : Nat} (hk : k < 8) (hx : x = nI (k + 1)) : az_F sc az_m_X6_presentAgo [.ref 1, .int x] h (some (.int (nI (sq_ag τ (k + 1))))) h := by
  have e0 : h 2 6 = nI (τ 0) := hT.1.2.2.2.1
  have e1 : h 9 3 = nI (τ 1) := hT.1.2.2.2.2.1
  have e2 : h 1 3 = nI (τ 2) := hT.1.1
  have e4 : h 13 1 = nI (τ 4) := hT.1.2.2.2.2.2
  have b0 : τ 0 ≤ 4 := hV.1
  have b1 : τ 1 ≤ 6 := hV.2.1
  have b2 : τ 2 ≤ 60 := hV.2.2.1
  have b4 : τ 4 ≤ 8 := hV.2.2.2.1
  refine az_F.of ?_
  refine az_er 6 rfl ?_
  refine az_ic_lt rfl rfl (fun c10 => absurd c10 (by rw [hx]; exact nI_nlt (a := k + 1) (b := 1) (by omega) (by omega))) (fun c10 => ?_)
  refine az_er 4 rfl ?_
  rw [e4, hx]
  refine az_ic_gt rfl rfl (fun c21 => ?_) (fun c21 => ?_)
  · refine az_er 2 rfl ?_
    refine az_eret rfl rfl rfl ?_
    exact ⟨by rw [e2, sq_ag, if_neg (by rw [nI_ltI (by omega) (by omega)] at c21; omega)], rfl⟩
  · refine az_er 2 rfl ?_
    refine az_len rfl rfl ?_
    refine az_ic_gt rfl rfl (fun c27 => absurd c27 (nI_nlt (a := 8) (b := k + 1) (by omega) (by omega))) (fun c27 => ?_)
    refine az_er 4 rfl ?_
    refine az_ia rfl rfl (by rw [show nI (k + 1) - Int32.ofInt 1 = nI k from nI_pred k]; exact vp_in_nI (by omega) (by decide)) ?_
    refine az_er 1 rfl ?_
    refine az_eret rfl rfl rfl ?_
    exact ⟨by rw [show nI (k + 1) - Int32.ofInt 1 = nI k from nI_pred k, nI_clamp (by omega), sq_ag, if_pos (by rw [nI_ltI (by omega) (by omega)] at c21; omega), show 59 + (k + 1) = 60 + k by omega]; exact congrArg _ (congrArg _ (hT.2.2.2 k hk)), rfl⟩
set_option maxRecDepth 100000 in
theorem lp_mean_1 {sc : az_S} {τ : Nat → Nat} {h : az_H} (hT : rt_T 1 τ h) (hV : rt_V τ) {s : Int32} {n : Nat} (hn : 1 ≤ n ∧ n ≤ 8) (hs : s = nI n) : ∀ (d i : Nat) (x y : Int32), i ≤ n → n - i = d → x = nI (sq_sm τ i) → y = nI (i + 1) → az_E sc az_m_X6_meanPresent 4 [.ref 1, .int s, .int x, .int y] [] h (fun v h' => v = some (.int (nI (sq_sm τ n) / nI n)) ∧ h' = h) := by
  have e0 : h 2 6 = nI (τ 0) := hT.1.2.2.2.1
  have e1 : h 9 3 = nI (τ 1) := hT.1.2.2.2.2.1
  have e2 : h 1 3 = nI (τ 2) := hT.1.1
  have e4 : h 13 1 = nI (τ 4) := hT.1.2.2.2.2.2
  have b0 : τ 0 ≤ 4 := hV.1
  have b1 : τ 1 ≤ 6 := hV.2.1
  have b2 : τ 2 ≤ 60 := hV.2.2.1
  have b4 : τ 4 ≤ 8 := hV.2.2.2.1
  intro d
  induction d with
  | zero =>
    intro i x y hi hd hx hy
    have he : i = n := by omega
    refine az_er 2 rfl ?_
    refine az_ic_gt rfl rfl (fun c6 => ?_) (fun c6 => absurd (by rw [hy, hs, he, nI_ltI (by omega) (by omega)]; omega) c6)
    refine az_er 2 rfl ?_
    refine az_ecallF rfl rfl rfl rfl (ct_quotient) ?_
    refine az_eret rfl rfl rfl ?_
    exact ⟨by rw [hx, hs, he, if_neg (nI_nle (by omega) (by omega))], rfl⟩
  | succ d ih =>
    intro i x y hi hd hx hy
    refine az_er 2 rfl ?_
    refine az_ic_gt rfl rfl (fun c6 => absurd c6 (by rw [hy, hs, nI_ltI (by omega) (by omega)]; omega)) (fun c6 => ?_)
    refine az_er 3 rfl ?_
    refine az_ecallF rfl rfl rfl rfl (ct_presentAgo_1 hT hV (k := i) (by omega) hy) ?_
    refine az_er 4 rfl ?_
    exact ih (i + 1) _ _ (by omega) (by omega) (by rw [hx, nI_add]; rfl) (by rw [hy]; exact nI_1' (i + 1))
set_option maxRecDepth 100000 in
theorem ct_mean_1 {sc : az_S} {τ : Nat → Nat} {h : az_H} (hT : rt_T 1 τ h) (hV : rt_V τ) {s : Int32} {n : Nat} (hn : 1 ≤ n ∧ n ≤ 8) (hs : s = nI n) : az_F sc az_m_X6_meanPresent [.ref 1, .int s] h (some (.int (nI (sq_sm τ n) / nI n))) h := by
  refine az_F.of ?_
  refine az_er 4 rfl ?_
  exact lp_mean_1 hT hV hn hs n 0 0 1 (Nat.zero_le _) (by omega) rfl rfl
set_option maxRecDepth 100000 in
theorem ct_foretells_1 {sc : az_S} {τ : Nat → Nat} {h : az_H} (hT : rt_T 1 τ h) (hV : rt_V τ) {s : Int32} {n k : Nat} (hn : 1 ≤ n ∧ n ≤ 6) (hs : s = nI n) (hk : k < 6) : az_F sc az_m_X6_foretells [.ref 1, .int (nI k), .int s] h (some (.int (sq_fo τ k n))) h := by
  have e0 : h 2 6 = nI (τ 0) := hT.1.2.2.2.1
  have e1 : h 9 3 = nI (τ 1) := hT.1.2.2.2.2.1
  have e2 : h 1 3 = nI (τ 2) := hT.1.1
  have e4 : h 13 1 = nI (τ 4) := hT.1.2.2.2.2.2
  have b0 : τ 0 ≤ 4 := hV.1
  have b1 : τ 1 ≤ 6 := hV.2.1
  have b2 : τ 2 ≤ 60 := hV.2.2.1
  have b4 : τ 4 ≤ 8 := hV.2.2.2.1
  have eN : n - 1 + 1 = n := by omega
  refine az_F.of ?_
  rcases (show k = 0 ∨ k = 1 ∨ k = 2 ∨ k = 3 ∨ k = 4 ∨ k = 5 by omega) with rfl | rfl | rfl | rfl | rfl | rfl
  · refine az_er 4 rfl ?_
    refine az_ecallF rfl rfl rfl rfl (ct_presentAgo_1 hT hV (k := n - 1) (by omega) (by rw [hs]; congr 1; omega)) ?_
    refine az_eret rfl rfl rfl ?_
    exact ⟨by rw [eN]; rfl, rfl⟩
  · refine az_er 5 rfl ?_
    refine az_ecallF rfl rfl rfl rfl (ct_people_1 hT hV) ?_
    refine az_er 2 rfl ?_
    refine az_ecallF rfl rfl rfl rfl (ct_presentAgo_1 hT hV (k := n - 1) (by omega) (by rw [hs]; congr 1; omega)) ?_
    refine az_er 1 rfl ?_
    refine az_er 1 rfl ?_
    refine az_eret rfl rfl rfl ?_
    exact ⟨by rw [eN]; rfl, rfl⟩
  · refine az_er 4 rfl ?_
    refine az_ecallF rfl rfl rfl rfl (ct_mean_1 hT hV ⟨hn.1, by omega⟩ hs) ?_
    refine az_eret rfl rfl rfl ?_
    exact ⟨rfl, rfl⟩
  · refine az_er 6 rfl ?_
    refine az_ecallF rfl rfl rfl rfl (ct_presentAgo_1 hT hV (k := 0) (by omega) rfl) ?_
    refine az_er 3 rfl ?_
    refine az_ecallF rfl rfl rfl rfl (ct_presentAgo_1 hT hV (k := n - 1) (by omega) (by rw [hs]; congr 1; omega)) ?_
    refine az_er 1 rfl ?_
    refine az_er 1 rfl ?_
    refine az_eret rfl rfl rfl ?_
    exact ⟨by rw [eN]; rfl, rfl⟩
  · refine az_er 5 rfl ?_
    refine az_ecallF rfl rfl rfl rfl (ct_mean_1 hT hV ⟨hn.1, by omega⟩ hs) ?_
    refine az_er 2 rfl ?_
    refine az_er 1 rfl ?_
    refine az_eret rfl rfl rfl ?_
    exact ⟨by rw [hs]; rfl, rfl⟩
  · refine az_er 5 rfl ?_
    refine az_eret rfl rfl rfl ?_
    exact ⟨by rw [hs]; rfl, rfl⟩
set_option maxRecDepth 100000 in
theorem ct_isRight_1 {sc : az_S} {τ : Nat → Nat} {h : az_H} (hT : rt_T 1 τ h) (hV : rt_V τ) {x p : Int32} (hp : h 1 8 = p) : az_F sc az_m_X6_isRight [.ref 1, .int x] h (some (.int (if decide (x ≤ nI (τ 2)) = decide (p ≤ nI (τ 2)) then 1 else 0))) h := by
  have e0 : h 2 6 = nI (τ 0) := hT.1.2.2.2.1
  have e1 : h 9 3 = nI (τ 1) := hT.1.2.2.2.2.1
  have e2 : h 1 3 = nI (τ 2) := hT.1.1
  have e4 : h 13 1 = nI (τ 4) := hT.1.2.2.2.2.2
  have b0 : τ 0 ≤ 4 := hV.1
  have b1 : τ 1 ≤ 6 := hV.2.1
  have b2 : τ 2 ≤ 60 := hV.2.2.1
  have b4 : τ 4 ≤ 8 := hV.2.2.2.1
  refine az_F.of ?_
  refine az_er 3 rfl ?_
  rw [e2]
  refine az_ic_gt rfl rfl (fun c5 => ?_) (fun c5 => ?_)
  · refine az_er 5 rfl ?_
    rw [e2, hp]
    refine az_ic_gt rfl rfl (fun c21 => ?_) (fun c21 => ?_)
    · refine az_er 1 rfl ?_
      refine az_ic_ne rfl rfl (fun c29 => ?_) (fun c29 => ?_)
      · refine az_er 1 rfl ?_
        refine az_eret rfl rfl rfl ?_
        refine ⟨?_, rfl⟩
        rcases Classical.em (x ≤ nI (τ 2)) with h1 | h1 <;> rcases Classical.em (p ≤ nI (τ 2)) with h2 | h2 <;> first | exact absurd h1 (Int32.not_le.mpr c5) | exact absurd (Int32.not_lt.mp c5) h1 | exact absurd h2 (Int32.not_le.mpr c21) | exact absurd (Int32.not_lt.mp c21) h2 | exact absurd rfl c29 | exact absurd c29 (by decide) | (simp [h1, h2]; done)
      · refine az_er 2 rfl ?_
        refine az_eret rfl rfl rfl ?_
        refine ⟨?_, rfl⟩
        rcases Classical.em (x ≤ nI (τ 2)) with h1 | h1 <;> rcases Classical.em (p ≤ nI (τ 2)) with h2 | h2 <;> first | exact absurd h1 (Int32.not_le.mpr c5) | exact absurd (Int32.not_lt.mp c5) h1 | exact absurd h2 (Int32.not_le.mpr c21) | exact absurd (Int32.not_lt.mp c21) h2 | exact absurd rfl c29 | exact absurd c29 (by decide) | (simp [h1, h2]; done)
    · refine az_er 2 rfl ?_
      refine az_ic_ne rfl rfl (fun c29 => ?_) (fun c29 => ?_)
      · refine az_er 1 rfl ?_
        refine az_eret rfl rfl rfl ?_
        refine ⟨?_, rfl⟩
        rcases Classical.em (x ≤ nI (τ 2)) with h1 | h1 <;> rcases Classical.em (p ≤ nI (τ 2)) with h2 | h2 <;> first | exact absurd h1 (Int32.not_le.mpr c5) | exact absurd (Int32.not_lt.mp c5) h1 | exact absurd h2 (Int32.not_le.mpr c21) | exact absurd (Int32.not_lt.mp c21) h2 | exact absurd rfl c29 | exact absurd c29 (by decide) | (simp [h1, h2]; done)
      · refine az_er 2 rfl ?_
        refine az_eret rfl rfl rfl ?_
        refine ⟨?_, rfl⟩
        rcases Classical.em (x ≤ nI (τ 2)) with h1 | h1 <;> rcases Classical.em (p ≤ nI (τ 2)) with h2 | h2 <;> first | exact absurd h1 (Int32.not_le.mpr c5) | exact absurd (Int32.not_lt.mp c5) h1 | exact absurd h2 (Int32.not_le.mpr c21) | exact absurd (Int32.not_lt.mp c21) h2 | exact absurd rfl c29 | exact absurd c29 (by decide) | (simp [h1, h2]; done)
  · refine az_er 6 rfl ?_
    rw [e2, hp]
    refine az_ic_gt rfl rfl (fun c21 => ?_) (fun c21 => ?_)
    · refine az_er 1 rfl ?_
      refine az_ic_ne rfl rfl (fun c29 => ?_) (fun c29 => ?_)
      · refine az_er 1 rfl ?_
        refine az_eret rfl rfl rfl ?_
        refine ⟨?_, rfl⟩
        rcases Classical.em (x ≤ nI (τ 2)) with h1 | h1 <;> rcases Classical.em (p ≤ nI (τ 2)) with h2 | h2 <;> first | exact absurd h1 (Int32.not_le.mpr c5) | exact absurd (Int32.not_lt.mp c5) h1 | exact absurd h2 (Int32.not_le.mpr c21) | exact absurd (Int32.not_lt.mp c21) h2 | exact absurd rfl c29 | exact absurd c29 (by decide) | (simp [h1, h2]; done)
      · refine az_er 2 rfl ?_
        refine az_eret rfl rfl rfl ?_
        refine ⟨?_, rfl⟩
        rcases Classical.em (x ≤ nI (τ 2)) with h1 | h1 <;> rcases Classical.em (p ≤ nI (τ 2)) with h2 | h2 <;> first | exact absurd h1 (Int32.not_le.mpr c5) | exact absurd (Int32.not_lt.mp c5) h1 | exact absurd h2 (Int32.not_le.mpr c21) | exact absurd (Int32.not_lt.mp c21) h2 | exact absurd rfl c29 | exact absurd c29 (by decide) | (simp [h1, h2]; done)
    · refine az_er 2 rfl ?_
      refine az_ic_ne rfl rfl (fun c29 => ?_) (fun c29 => ?_)
      · refine az_er 1 rfl ?_
        refine az_eret rfl rfl rfl ?_
        refine ⟨?_, rfl⟩
        rcases Classical.em (x ≤ nI (τ 2)) with h1 | h1 <;> rcases Classical.em (p ≤ nI (τ 2)) with h2 | h2 <;> first | exact absurd h1 (Int32.not_le.mpr c5) | exact absurd (Int32.not_lt.mp c5) h1 | exact absurd h2 (Int32.not_le.mpr c21) | exact absurd (Int32.not_lt.mp c21) h2 | exact absurd rfl c29 | exact absurd c29 (by decide) | (simp [h1, h2]; done)
      · refine az_er 2 rfl ?_
        refine az_eret rfl rfl rfl ?_
        refine ⟨?_, rfl⟩
        rcases Classical.em (x ≤ nI (τ 2)) with h1 | h1 <;> rcases Classical.em (p ≤ nI (τ 2)) with h2 | h2 <;> first | exact absurd h1 (Int32.not_le.mpr c5) | exact absurd (Int32.not_lt.mp c5) h1 | exact absurd h2 (Int32.not_le.mpr c21) | exact absurd (Int32.not_lt.mp c21) h2 | exact absurd rfl c29 | exact absurd c29 (by decide) | (simp [h1, h2]; done)
set_option maxRecDepth 100000 in
theorem lp_mostRight_1 {sc : az_S} {τ : Nat → Nat} {h : az_H} (hT : rt_T 1 τ h) (hV : rt_V τ) : ∀ (d best r : Nat) (x y z : Int32), best < 6 → r < 2 ^ 31 - 1 ∧ τ 1 - r = d → y = nI best → z = nI r → az_E sc az_m_X3_mostRight 6 [.ref 9, .int x, .int y, .int z] [] h (fun v h' => v = some (.int (nI (sq_ht τ d best r))) ∧ h' = h) := by
  have e0 : h 2 6 = nI (τ 0) := hT.1.2.2.2.1
  have e1 : h 9 3 = nI (τ 1) := hT.1.2.2.2.2.1
  have e2 : h 1 3 = nI (τ 2) := hT.1.1
  have e4 : h 13 1 = nI (τ 4) := hT.1.2.2.2.2.2
  have b0 : τ 0 ≤ 4 := hV.1
  have b1 : τ 1 ≤ 6 := hV.2.1
  have b2 : τ 2 ≤ 60 := hV.2.2.1
  have b4 : τ 4 ≤ 8 := hV.2.2.2.1
  intro d
  induction d with
  | zero =>
    intro best r x y z hb ⟨hr, hd⟩ hy hz
    refine az_er 3 rfl ?_
    refine az_ic_ge rfl rfl (fun c11 => ?_) (fun c11 => absurd (by rw [e1, hz]; exact nI_le (by omega) (by omega)) c11)
    refine az_er 1 rfl ?_
    refine az_eret rfl rfl rfl ?_
    exact ⟨by rw [hy]; rfl, rfl⟩
  | succ d ih =>
    intro best r x y z hb ⟨hr, hd⟩ hy hz
    refine az_er 3 rfl ?_
    refine az_ic_ge rfl rfl (fun c11 => absurd c11 (by rw [e1, hz]; exact nI_ge (by omega) (by omega))) (fun c11 => ?_)
    refine az_er 3 rfl ?_
    refine az_ecallF rfl rfl rfl rfl (ct_atI rfl hz (by omega) (by decide) (hT.2.2.1 r (by omega)).2.2) ?_
    refine az_er 3 rfl ?_
    refine az_ecallF rfl rfl rfl rfl (ct_atI rfl hy (by omega) (by decide) (hT.2.2.1 best (by omega)).2.2) ?_
    refine az_ic_le rfl rfl (fun c30 => ?_) (fun c30 => ?_)
    · refine az_er 2 rfl ?_
      rw [sq_ht, if_neg (Int32.not_lt.mpr c30)]
      exact ih best (r + 1) x y _ (by omega) ⟨by omega, by omega⟩ hy (by rw [hz]; exact nI_1' r)
    · refine az_er 4 rfl ?_
      rw [sq_ht, if_pos (Int32.not_le.mp c30)]
      exact ih r (r + 1) x z _ (by omega) ⟨by omega, by omega⟩ hz (by rw [hz]; exact nI_1' r)
set_option maxRecDepth 100000 in
theorem ct_mostRight_1 {sc : az_S} {τ : Nat → Nat} {h : az_H} (hT : rt_T 1 τ h) (hV : rt_V τ) {x : Int32} {j : Nat} (hj : j < 6) (hx : x = nI j) : az_F sc az_m_X3_mostRight [.ref 9, .int x] h (some (.int (nI (sq_hat τ j)))) h := by
  refine az_F.of ?_
  refine az_er 6 rfl ?_
  exact lp_mostRight_1 hT hV (τ 1 - (j + 1)) j (j + 1) x x _ hj ⟨by omega, rfl⟩ hx (by rw [hx]; exact nI_1' j)
set_option maxRecDepth 100000 in
theorem ct_X4has_16 {sc : az_S} {τ : Nat → Nat} {h : az_H} (hT : rt_T 16 τ h) (hV : rt_V τ) {x : Int32} : az_F sc az_m_X4_has [.ref 17, .int x] h (some (.int (if x < 0 then 0 else if nI (τ 0) ≤ x then 0 else 1))) h := by
  have e0 : h 17 6 = nI (τ 0) := hT.1.2.2.2.1
  have e1 : h 24 3 = nI (τ 1) := hT.1.2.2.2.2.1
  have e2 : h 16 3 = nI (τ 2) := hT.1.1
  have e4 : h 28 1 = nI (τ 4) := hT.1.2.2.2.2.2
  have b0 : τ 0 ≤ 4 := hV.1
  have b1 : τ 1 ≤ 6 := hV.2.1
  have b2 : τ 2 ≤ 60 := hV.2.2.1
  have b4 : τ 4 ≤ 8 := hV.2.2.2.1
  refine az_F.of ?_
  refine az_er 1 rfl ?_
  refine az_if_lt rfl rfl (fun c1 => ?_) (fun c1 => ?_)
  · refine az_er 1 rfl ?_
    refine az_eret rfl rfl rfl ?_
    exact ⟨by simp [*], rfl⟩
  · refine az_er 3 rfl ?_
    rw [e0]
    refine az_ic_ge rfl rfl (fun c9 => ?_) (fun c9 => ?_)
    · refine az_er 1 rfl ?_
      refine az_eret rfl rfl rfl ?_
      exact ⟨by simp [*], rfl⟩
    · refine az_er 2 rfl ?_
      refine az_eret rfl rfl rfl ?_
      exact ⟨by simp [*], rfl⟩
set_option maxRecDepth 100000 in
theorem ct_X3has_16 {sc : az_S} {τ : Nat → Nat} {h : az_H} (hT : rt_T 16 τ h) (hV : rt_V τ) {x : Int32} : az_F sc az_m_X3_has [.ref 24, .int x] h (some (.int (if x < 0 then 0 else if nI (τ 1) ≤ x then 0 else 1))) h := by
  have e0 : h 17 6 = nI (τ 0) := hT.1.2.2.2.1
  have e1 : h 24 3 = nI (τ 1) := hT.1.2.2.2.2.1
  have e2 : h 16 3 = nI (τ 2) := hT.1.1
  have e4 : h 28 1 = nI (τ 4) := hT.1.2.2.2.2.2
  have b0 : τ 0 ≤ 4 := hV.1
  have b1 : τ 1 ≤ 6 := hV.2.1
  have b2 : τ 2 ≤ 60 := hV.2.2.1
  have b4 : τ 4 ≤ 8 := hV.2.2.2.1
  refine az_F.of ?_
  refine az_er 1 rfl ?_
  refine az_if_lt rfl rfl (fun c1 => ?_) (fun c1 => ?_)
  · refine az_er 1 rfl ?_
    refine az_eret rfl rfl rfl ?_
    exact ⟨by simp [*], rfl⟩
  · refine az_er 3 rfl ?_
    rw [e1]
    refine az_ic_ge rfl rfl (fun c9 => ?_) (fun c9 => ?_)
    · refine az_er 1 rfl ?_
      refine az_eret rfl rfl rfl ?_
      exact ⟨by simp [*], rfl⟩
    · refine az_er 2 rfl ?_
      refine az_eret rfl rfl rfl ?_
      exact ⟨by simp [*], rfl⟩
set_option maxRecDepth 100000 in
theorem lp_people_16 {sc : az_S} {τ : Nat → Nat} {h : az_H} (hT : rt_T 16 τ h) (hV : rt_V τ) : ∀ (d i : Nat) (x y : Int32), i ≤ τ 0 → τ 0 - i = d → x = nI (sq_pp τ i) → y = nI i → az_E sc az_m_X4_people 4 [.ref 17, .int x, .int y] [] h (fun v h' => v = some (.int (nI (sq_pp τ (τ 0)))) ∧ h' = h) := by
  have e0 : h 17 6 = nI (τ 0) := hT.1.2.2.2.1
  have e1 : h 24 3 = nI (τ 1) := hT.1.2.2.2.2.1
  have e2 : h 16 3 = nI (τ 2) := hT.1.1
  have e4 : h 28 1 = nI (τ 4) := hT.1.2.2.2.2.2
  have b0 : τ 0 ≤ 4 := hV.1
  have b1 : τ 1 ≤ 6 := hV.2.1
  have b2 : τ 2 ≤ 60 := hV.2.2.1
  have b4 : τ 4 ≤ 8 := hV.2.2.2.1
  intro d
  induction d with
  | zero =>
    intro i x y hi hd hx hy
    have he : i = τ 0 := by omega
    refine az_er 3 rfl ?_
    refine az_ic_ge rfl rfl (fun c9 => ?_) (fun c9 => absurd (by rw [e0, hy, he]; exact nI_le (Nat.le_refl _) (by omega)) c9)
    refine az_er 1 rfl ?_
    refine az_eret rfl rfl rfl ?_
    exact ⟨by rw [hx, he], rfl⟩
  | succ d ih =>
    intro i x y hi hd hx hy
    have hlt : i < τ 0 := by omega
    refine az_er 3 rfl ?_
    refine az_ic_ge rfl rfl (fun c9 => absurd c9 (by rw [e0, hy]; exact nI_ge hlt (by omega))) (fun c9 => ?_)
    refine az_er 4 rfl ?_
    refine az_ecallF rfl rfl rfl rfl (ct_atI rfl hy (by omega) (by decide) (hT.2.1 i (by omega)).1) ?_
    refine az_er 4 rfl ?_
    exact ih (i + 1) _ _ (by omega) (by omega) (by rw [hx, nI_add]; rfl) (by rw [hy]; exact nI_1' i)
set_option maxRecDepth 100000 in
theorem ct_people_16 {sc : az_S} {τ : Nat → Nat} {h : az_H} (hT : rt_T 16 τ h) (hV : rt_V τ) : az_F sc az_m_X4_people [.ref 17] h (some (.int (nI (sq_pp τ (τ 0))))) h := by
  refine az_F.of ?_
  refine az_er 4 rfl ?_
  exact lp_people_16 hT hV (τ 0) 0 0 0 (Nat.zero_le _) (by omega) rfl rfl
set_option maxRecDepth 100000 in
theorem ct_presentAgo_16 {sc : az_S} {τ : Nat → Nat} {h : az_H} (hT : rt_T 16 τ h) (hV : rt_V τ) {x : Int32} {k : Nat} (hk : k < 8) (hx : x = nI (k + 1)) : az_F sc az_m_X6_presentAgo [.ref 16, .int x] h (some (.int (nI (sq_ag τ (k + 1))))) h := by
  have e0 : h 17 6 = nI (τ 0) := hT.1.2.2.2.1
  have e1 : h 24 3 = nI (τ 1) := hT.1.2.2.2.2.1
  have e2 : h 16 3 = nI (τ 2) := hT.1.1
  have e4 : h 28 1 = nI (τ 4) := hT.1.2.2.2.2.2
  have b0 : τ 0 ≤ 4 := hV.1
  have b1 : τ 1 ≤ 6 := hV.2.1
  have b2 : τ 2 ≤ 60 := hV.2.2.1
  have b4 : τ 4 ≤ 8 := hV.2.2.2.1
  refine az_F.of ?_
  refine az_er 6 rfl ?_
  refine az_ic_lt rfl rfl (fun c10 => absurd c10 (by rw [hx]; exact nI_nlt (a := k + 1) (b := 1) (by omega) (by omega))) (fun c10 => ?_)
  refine az_er 4 rfl ?_
  rw [e4, hx]
  refine az_ic_gt rfl rfl (fun c21 => ?_) (fun c21 => ?_)
  · refine az_er 2 rfl ?_
    refine az_eret rfl rfl rfl ?_
    exact ⟨by rw [e2, sq_ag, if_neg (by rw [nI_ltI (by omega) (by omega)] at c21; omega)], rfl⟩
  · refine az_er 2 rfl ?_
    refine az_len rfl rfl ?_
    refine az_ic_gt rfl rfl (fun c27 => absurd c27 (nI_nlt (a := 8) (b := k + 1) (by omega) (by omega))) (fun c27 => ?_)
    refine az_er 4 rfl ?_
    refine az_ia rfl rfl (by rw [show nI (k + 1) - Int32.ofInt 1 = nI k from nI_pred k]; exact vp_in_nI (by omega) (by decide)) ?_
    refine az_er 1 rfl ?_
    refine az_eret rfl rfl rfl ?_
    exact ⟨by rw [show nI (k + 1) - Int32.ofInt 1 = nI k from nI_pred k, nI_clamp (by omega), sq_ag, if_pos (by rw [nI_ltI (by omega) (by omega)] at c21; omega), show 59 + (k + 1) = 60 + k by omega]; exact congrArg _ (congrArg _ (hT.2.2.2 k hk)), rfl⟩
set_option maxRecDepth 100000 in
theorem lp_mean_16 {sc : az_S} {τ : Nat → Nat} {h : az_H} (hT : rt_T 16 τ h) (hV : rt_V τ) {s : Int32} {n : Nat} (hn : 1 ≤ n ∧ n ≤ 8) (hs : s = nI n) : ∀ (d i : Nat) (x y : Int32), i ≤ n → n - i = d → x = nI (sq_sm τ i) → y = nI (i + 1) → az_E sc az_m_X6_meanPresent 4 [.ref 16, .int s, .int x, .int y] [] h (fun v h' => v = some (.int (nI (sq_sm τ n) / nI n)) ∧ h' = h) := by
  have e0 : h 17 6 = nI (τ 0) := hT.1.2.2.2.1
  have e1 : h 24 3 = nI (τ 1) := hT.1.2.2.2.2.1
  have e2 : h 16 3 = nI (τ 2) := hT.1.1
  have e4 : h 28 1 = nI (τ 4) := hT.1.2.2.2.2.2
  have b0 : τ 0 ≤ 4 := hV.1
  have b1 : τ 1 ≤ 6 := hV.2.1
  have b2 : τ 2 ≤ 60 := hV.2.2.1
  have b4 : τ 4 ≤ 8 := hV.2.2.2.1
  intro d
  induction d with
  | zero =>
    intro i x y hi hd hx hy
    have he : i = n := by omega
    refine az_er 2 rfl ?_
    refine az_ic_gt rfl rfl (fun c6 => ?_) (fun c6 => absurd (by rw [hy, hs, he, nI_ltI (by omega) (by omega)]; omega) c6)
    refine az_er 2 rfl ?_
    refine az_ecallF rfl rfl rfl rfl (ct_quotient) ?_
    refine az_eret rfl rfl rfl ?_
    exact ⟨by rw [hx, hs, he, if_neg (nI_nle (by omega) (by omega))], rfl⟩
  | succ d ih =>
    intro i x y hi hd hx hy
    refine az_er 2 rfl ?_
    refine az_ic_gt rfl rfl (fun c6 => absurd c6 (by rw [hy, hs, nI_ltI (by omega) (by omega)]; omega)) (fun c6 => ?_)
    refine az_er 3 rfl ?_
    refine az_ecallF rfl rfl rfl rfl (ct_presentAgo_16 hT hV (k := i) (by omega) hy) ?_
    refine az_er 4 rfl ?_
    exact ih (i + 1) _ _ (by omega) (by omega) (by rw [hx, nI_add]; rfl) (by rw [hy]; exact nI_1' (i + 1))
set_option maxRecDepth 100000 in
theorem ct_mean_16 {sc : az_S} {τ : Nat → Nat} {h : az_H} (hT : rt_T 16 τ h) (hV : rt_V τ) {s : Int32} {n : Nat} (hn : 1 ≤ n ∧ n ≤ 8) (hs : s = nI n) : az_F sc az_m_X6_meanPresent [.ref 16, .int s] h (some (.int (nI (sq_sm τ n) / nI n))) h := by
  refine az_F.of ?_
  refine az_er 4 rfl ?_
  exact lp_mean_16 hT hV hn hs n 0 0 1 (Nat.zero_le _) (by omega) rfl rfl
set_option maxRecDepth 100000 in
theorem ct_foretells_16 {sc : az_S} {τ : Nat → Nat} {h : az_H} (hT : rt_T 16 τ h) (hV : rt_V τ) {s : Int32} {n k : Nat} (hn : 1 ≤ n ∧ n ≤ 6) (hs : s = nI n) (hk : k < 6) : az_F sc az_m_X6_foretells [.ref 16, .int (nI k), .int s] h (some (.int (sq_fo τ k n))) h := by
  have e0 : h 17 6 = nI (τ 0) := hT.1.2.2.2.1
  have e1 : h 24 3 = nI (τ 1) := hT.1.2.2.2.2.1
  have e2 : h 16 3 = nI (τ 2) := hT.1.1
  have e4 : h 28 1 = nI (τ 4) := hT.1.2.2.2.2.2
  have b0 : τ 0 ≤ 4 := hV.1
  have b1 : τ 1 ≤ 6 := hV.2.1
  have b2 : τ 2 ≤ 60 := hV.2.2.1
  have b4 : τ 4 ≤ 8 := hV.2.2.2.1
  have eN : n - 1 + 1 = n := by omega
  refine az_F.of ?_
  rcases (show k = 0 ∨ k = 1 ∨ k = 2 ∨ k = 3 ∨ k = 4 ∨ k = 5 by omega) with rfl | rfl | rfl | rfl | rfl | rfl
  · refine az_er 4 rfl ?_
    refine az_ecallF rfl rfl rfl rfl (ct_presentAgo_16 hT hV (k := n - 1) (by omega) (by rw [hs]; congr 1; omega)) ?_
    refine az_eret rfl rfl rfl ?_
    exact ⟨by rw [eN]; rfl, rfl⟩
  · refine az_er 5 rfl ?_
    refine az_ecallF rfl rfl rfl rfl (ct_people_16 hT hV) ?_
    refine az_er 2 rfl ?_
    refine az_ecallF rfl rfl rfl rfl (ct_presentAgo_16 hT hV (k := n - 1) (by omega) (by rw [hs]; congr 1; omega)) ?_
    refine az_er 1 rfl ?_
    refine az_er 1 rfl ?_
    refine az_eret rfl rfl rfl ?_
    exact ⟨by rw [eN]; rfl, rfl⟩
  · refine az_er 4 rfl ?_
    refine az_ecallF rfl rfl rfl rfl (ct_mean_16 hT hV ⟨hn.1, by omega⟩ hs) ?_
    refine az_eret rfl rfl rfl ?_
    exact ⟨rfl, rfl⟩
  · refine az_er 6 rfl ?_
    refine az_ecallF rfl rfl rfl rfl (ct_presentAgo_16 hT hV (k := 0) (by omega) rfl) ?_
    refine az_er 3 rfl ?_
    refine az_ecallF rfl rfl rfl rfl (ct_presentAgo_16 hT hV (k := n - 1) (by omega) (by rw [hs]; congr 1; omega)) ?_
    refine az_er 1 rfl ?_
    refine az_er 1 rfl ?_
    refine az_eret rfl rfl rfl ?_
    exact ⟨by rw [eN]; rfl, rfl⟩
  · refine az_er 5 rfl ?_
    refine az_ecallF rfl rfl rfl rfl (ct_mean_16 hT hV ⟨hn.1, by omega⟩ hs) ?_
    refine az_er 2 rfl ?_
    refine az_er 1 rfl ?_
    refine az_eret rfl rfl rfl ?_
    exact ⟨by rw [hs]; rfl, rfl⟩
  · refine az_er 5 rfl ?_
    refine az_eret rfl rfl rfl ?_
    exact ⟨by rw [hs]; rfl, rfl⟩
set_option maxRecDepth 100000 in
theorem ct_isRight_16 {sc : az_S} {τ : Nat → Nat} {h : az_H} (hT : rt_T 16 τ h) (hV : rt_V τ) {x p : Int32} (hp : h 16 8 = p) : az_F sc az_m_X6_isRight [.ref 16, .int x] h (some (.int (if decide (x ≤ nI (τ 2)) = decide (p ≤ nI (τ 2)) then 1 else 0))) h := by
  have e0 : h 17 6 = nI (τ 0) := hT.1.2.2.2.1
  have e1 : h 24 3 = nI (τ 1) := hT.1.2.2.2.2.1
  have e2 : h 16 3 = nI (τ 2) := hT.1.1
  have e4 : h 28 1 = nI (τ 4) := hT.1.2.2.2.2.2
  have b0 : τ 0 ≤ 4 := hV.1
  have b1 : τ 1 ≤ 6 := hV.2.1
  have b2 : τ 2 ≤ 60 := hV.2.2.1
  have b4 : τ 4 ≤ 8 := hV.2.2.2.1
  refine az_F.of ?_
  refine az_er 3 rfl ?_
  rw [e2]
  refine az_ic_gt rfl rfl (fun c5 => ?_) (fun c5 => ?_)
  · refine az_er 5 rfl ?_
    rw [e2, hp]
    refine az_ic_gt rfl rfl (fun c21 => ?_) (fun c21 => ?_)
    · refine az_er 1 rfl ?_
      refine az_ic_ne rfl rfl (fun c29 => ?_) (fun c29 => ?_)
      · refine az_er 1 rfl ?_
        refine az_eret rfl rfl rfl ?_
        refine ⟨?_, rfl⟩
        rcases Classical.em (x ≤ nI (τ 2)) with h1 | h1 <;> rcases Classical.em (p ≤ nI (τ 2)) with h2 | h2 <;> first | exact absurd h1 (Int32.not_le.mpr c5) | exact absurd (Int32.not_lt.mp c5) h1 | exact absurd h2 (Int32.not_le.mpr c21) | exact absurd (Int32.not_lt.mp c21) h2 | exact absurd rfl c29 | exact absurd c29 (by decide) | (simp [h1, h2]; done)
      · refine az_er 2 rfl ?_
        refine az_eret rfl rfl rfl ?_
        refine ⟨?_, rfl⟩
        rcases Classical.em (x ≤ nI (τ 2)) with h1 | h1 <;> rcases Classical.em (p ≤ nI (τ 2)) with h2 | h2 <;> first | exact absurd h1 (Int32.not_le.mpr c5) | exact absurd (Int32.not_lt.mp c5) h1 | exact absurd h2 (Int32.not_le.mpr c21) | exact absurd (Int32.not_lt.mp c21) h2 | exact absurd rfl c29 | exact absurd c29 (by decide) | (simp [h1, h2]; done)
    · refine az_er 2 rfl ?_
      refine az_ic_ne rfl rfl (fun c29 => ?_) (fun c29 => ?_)
      · refine az_er 1 rfl ?_
        refine az_eret rfl rfl rfl ?_
        refine ⟨?_, rfl⟩
        rcases Classical.em (x ≤ nI (τ 2)) with h1 | h1 <;> rcases Classical.em (p ≤ nI (τ 2)) with h2 | h2 <;> first | exact absurd h1 (Int32.not_le.mpr c5) | exact absurd (Int32.not_lt.mp c5) h1 | exact absurd h2 (Int32.not_le.mpr c21) | exact absurd (Int32.not_lt.mp c21) h2 | exact absurd rfl c29 | exact absurd c29 (by decide) | (simp [h1, h2]; done)
      · refine az_er 2 rfl ?_
        refine az_eret rfl rfl rfl ?_
        refine ⟨?_, rfl⟩
        rcases Classical.em (x ≤ nI (τ 2)) with h1 | h1 <;> rcases Classical.em (p ≤ nI (τ 2)) with h2 | h2 <;> first | exact absurd h1 (Int32.not_le.mpr c5) | exact absurd (Int32.not_lt.mp c5) h1 | exact absurd h2 (Int32.not_le.mpr c21) | exact absurd (Int32.not_lt.mp c21) h2 | exact absurd rfl c29 | exact absurd c29 (by decide) | (simp [h1, h2]; done)
  · refine az_er 6 rfl ?_
    rw [e2, hp]
    refine az_ic_gt rfl rfl (fun c21 => ?_) (fun c21 => ?_)
    · refine az_er 1 rfl ?_
      refine az_ic_ne rfl rfl (fun c29 => ?_) (fun c29 => ?_)
      · refine az_er 1 rfl ?_
        refine az_eret rfl rfl rfl ?_
        refine ⟨?_, rfl⟩
        rcases Classical.em (x ≤ nI (τ 2)) with h1 | h1 <;> rcases Classical.em (p ≤ nI (τ 2)) with h2 | h2 <;> first | exact absurd h1 (Int32.not_le.mpr c5) | exact absurd (Int32.not_lt.mp c5) h1 | exact absurd h2 (Int32.not_le.mpr c21) | exact absurd (Int32.not_lt.mp c21) h2 | exact absurd rfl c29 | exact absurd c29 (by decide) | (simp [h1, h2]; done)
      · refine az_er 2 rfl ?_
        refine az_eret rfl rfl rfl ?_
        refine ⟨?_, rfl⟩
        rcases Classical.em (x ≤ nI (τ 2)) with h1 | h1 <;> rcases Classical.em (p ≤ nI (τ 2)) with h2 | h2 <;> first | exact absurd h1 (Int32.not_le.mpr c5) | exact absurd (Int32.not_lt.mp c5) h1 | exact absurd h2 (Int32.not_le.mpr c21) | exact absurd (Int32.not_lt.mp c21) h2 | exact absurd rfl c29 | exact absurd c29 (by decide) | (simp [h1, h2]; done)
    · refine az_er 2 rfl ?_
      refine az_ic_ne rfl rfl (fun c29 => ?_) (fun c29 => ?_)
      · refine az_er 1 rfl ?_
        refine az_eret rfl rfl rfl ?_
        refine ⟨?_, rfl⟩
        rcases Classical.em (x ≤ nI (τ 2)) with h1 | h1 <;> rcases Classical.em (p ≤ nI (τ 2)) with h2 | h2 <;> first | exact absurd h1 (Int32.not_le.mpr c5) | exact absurd (Int32.not_lt.mp c5) h1 | exact absurd h2 (Int32.not_le.mpr c21) | exact absurd (Int32.not_lt.mp c21) h2 | exact absurd rfl c29 | exact absurd c29 (by decide) | (simp [h1, h2]; done)
      · refine az_er 2 rfl ?_
        refine az_eret rfl rfl rfl ?_
        refine ⟨?_, rfl⟩
        rcases Classical.em (x ≤ nI (τ 2)) with h1 | h1 <;> rcases Classical.em (p ≤ nI (τ 2)) with h2 | h2 <;> first | exact absurd h1 (Int32.not_le.mpr c5) | exact absurd (Int32.not_lt.mp c5) h1 | exact absurd h2 (Int32.not_le.mpr c21) | exact absurd (Int32.not_lt.mp c21) h2 | exact absurd rfl c29 | exact absurd c29 (by decide) | (simp [h1, h2]; done)
set_option maxRecDepth 100000 in
theorem lp_mostRight_16 {sc : az_S} {τ : Nat → Nat} {h : az_H} (hT : rt_T 16 τ h) (hV : rt_V τ) : ∀ (d best r : Nat) (x y z : Int32), best < 6 → r < 2 ^ 31 - 1 ∧ τ 1 - r = d → y = nI best → z = nI r → az_E sc az_m_X3_mostRight 6 [.ref 24, .int x, .int y, .int z] [] h (fun v h' => v = some (.int (nI (sq_ht τ d best r))) ∧ h' = h) := by
  have e0 : h 17 6 = nI (τ 0) := hT.1.2.2.2.1
  have e1 : h 24 3 = nI (τ 1) := hT.1.2.2.2.2.1
  have e2 : h 16 3 = nI (τ 2) := hT.1.1
  have e4 : h 28 1 = nI (τ 4) := hT.1.2.2.2.2.2
  have b0 : τ 0 ≤ 4 := hV.1
  have b1 : τ 1 ≤ 6 := hV.2.1
  have b2 : τ 2 ≤ 60 := hV.2.2.1
  have b4 : τ 4 ≤ 8 := hV.2.2.2.1
  intro d
  induction d with
  | zero =>
    intro best r x y z hb ⟨hr, hd⟩ hy hz
    refine az_er 3 rfl ?_
    refine az_ic_ge rfl rfl (fun c11 => ?_) (fun c11 => absurd (by rw [e1, hz]; exact nI_le (by omega) (by omega)) c11)
    refine az_er 1 rfl ?_
    refine az_eret rfl rfl rfl ?_
    exact ⟨by rw [hy]; rfl, rfl⟩
  | succ d ih =>
    intro best r x y z hb ⟨hr, hd⟩ hy hz
    refine az_er 3 rfl ?_
    refine az_ic_ge rfl rfl (fun c11 => absurd c11 (by rw [e1, hz]; exact nI_ge (by omega) (by omega))) (fun c11 => ?_)
    refine az_er 3 rfl ?_
    refine az_ecallF rfl rfl rfl rfl (ct_atI rfl hz (by omega) (by decide) (hT.2.2.1 r (by omega)).2.2) ?_
    refine az_er 3 rfl ?_
    refine az_ecallF rfl rfl rfl rfl (ct_atI rfl hy (by omega) (by decide) (hT.2.2.1 best (by omega)).2.2) ?_
    refine az_ic_le rfl rfl (fun c30 => ?_) (fun c30 => ?_)
    · refine az_er 2 rfl ?_
      rw [sq_ht, if_neg (Int32.not_lt.mpr c30)]
      exact ih best (r + 1) x y _ (by omega) ⟨by omega, by omega⟩ hy (by rw [hz]; exact nI_1' r)
    · refine az_er 4 rfl ?_
      rw [sq_ht, if_pos (Int32.not_le.mp c30)]
      exact ih r (r + 1) x z _ (by omega) ⟨by omega, by omega⟩ hz (by rw [hz]; exact nI_1' r)
set_option maxRecDepth 100000 in
theorem ct_mostRight_16 {sc : az_S} {τ : Nat → Nat} {h : az_H} (hT : rt_T 16 τ h) (hV : rt_V τ) {x : Int32} {j : Nat} (hj : j < 6) (hx : x = nI j) : az_F sc az_m_X3_mostRight [.ref 24, .int x] h (some (.int (nI (sq_hat τ j)))) h := by
  refine az_F.of ?_
  refine az_er 6 rfl ?_
  exact lp_mostRight_16 hT hV (τ 1 - (j + 1)) j (j + 1) x x _ hj ⟨by omega, rfl⟩ hx (by rw [hx]; exact nI_1' j)
end
section
/-! A WEEK, in values -/
def sq_gs (τ : Nat → Nat) (s : Nat) : Bool := match τ (11 + 6 * s) with
  | 0 => true
  | 2 => sq_ok τ (τ (12 + 6 * s))
  | 3 => sq_ok τ (sq_hat τ (τ (12 + 6 * s)))
  | 4 => decide (nI (τ 3) - nI (τ 3) / nI (τ (12 + 6 * s) + 1) * nI (τ (12 + 6 * s) + 1) = 0)
  | _ => false
def sq_n1 (τ : Nat → Nat) : Nat → Nat
  | 0 => 0
  | s + 1 => sq_n1 τ s + (if sq_gs τ s then τ (10 + 6 * s) else 0)
def sq_n2 (τ : Nat → Nat) : Nat → Nat
  | 0 => sq_n1 τ (τ 0)
  | s + 1 => if τ (11 + 6 * s) = 5 then (if nI (sq_n2 τ s + τ (10 + 6 * s)) ≤ nI (τ 2) then sq_n2 τ s + τ (10 + 6 * s) else sq_n2 τ s) else sq_n2 τ s
def sq_go (τ : Nat → Nat) (s : Nat) : Bool := if τ (11 + 6 * s) = 5 then decide (nI (sq_n2 τ s + τ (10 + 6 * s)) ≤ nI (τ 2)) else sq_gs τ s
def sq_pr (τ : Nat → Nat) : Nat := sq_n2 τ (τ 0)
def sq_b (g : Bool) : Int32 := if g then 1 else 0
def sq_ri (τ : Nat → Nat) (r : Nat) : Bool := decide (decide (sq_fb τ r ≤ nI (τ 2)) = decide (nI (sq_pr τ) ≤ nI (τ 2)))
def sq_rt (τ : Nat → Nat) (i : Nat) : Nat → Nat := fun j => if 42 ≤ j ∧ j < 42 + 3 * i ∧ j % 3 = 0 ∧ sq_ri τ ((j - 42) / 3) = true then τ j + 1 else τ j
def sq_mem (τ : Nat → Nat) (p : Nat) : Nat → Nat := fun j => if j = 4 then min (τ 4 + 1) 8 else if j = 60 then p else if 61 ≤ j ∧ j < 68 then τ (j - 1) else τ j
def sq_st (τ : Nat → Nat) : Nat → Nat := fun j => if j = 3 then τ 3 + 1 else sq_mem (sq_rt τ (τ 1)) (sq_pr τ) j
def sq_wg (τ : Nat → Nat) (p s : Nat) : Int32 := (if nI p ≤ nI (τ 2) then nI (τ (13 + 6 * s)) else nI (τ (14 + 6 * s))) - nI (τ 5)
def sq_w (τ : Nat → Nat) (g : Bool) (p s : Nat) : Int32 := if g then sq_wg τ p s else nI (τ (15 + 6 * s))
def sq_wa (τ : Nat → Nat) : Nat → Int32
  | 0 => 0
  | n + 1 => sq_wa τ n + nI (τ (10 + 6 * n)) * sq_w τ (sq_go τ n) (sq_pr τ) n
theorem sq_ht_lt {τ : Nat → Nat} : ∀ (n best r : Nat), best < τ 1 → r + n ≤ τ 1 → sq_ht τ n best r < τ 1
  | 0, best, r, h, _ => h
  | n + 1, best, r, h, h2 => by
    rw [sq_ht]
    refine sq_ht_lt n _ (r + 1) ?_ (by omega)
    split
    · omega
    · exact h
theorem sq_hat_lt {τ : Nat → Nat} {j : Nat} (h : j < τ 1) : sq_hat τ j < τ 1 := sq_ht_lt _ _ _ h (by omega)
theorem sq_gs2 {τ : Nat → Nat} {s : Nat} (h : τ (11 + 6 * s) = 2) : sq_gs τ s = sq_ok τ (τ (12 + 6 * s)) := by simp [sq_gs, h]
theorem sq_gs3 {τ : Nat → Nat} {s : Nat} (h : τ (11 + 6 * s) = 3) : sq_gs τ s = sq_ok τ (sq_hat τ (τ (12 + 6 * s))) := by simp [sq_gs, h]
theorem sq_bt {c : Prop} [Decidable c] (h : c) : sq_b (decide c) = 1 := by simp [sq_b, h]
theorem sq_bf {c : Prop} [Decidable c] (h : ¬ c) : sq_b (decide c) = 0 := by simp [sq_b, h]
theorem sq_gs5 {τ : Nat → Nat} {s : Nat} (h : τ (11 + 6 * s) = 5) : sq_gs τ s = false := by simp [sq_gs, h]
theorem sq_n1_le {τ : Nat → Nat} (hV : rt_V τ) : ∀ s, s ≤ 4 → sq_n1 τ s ≤ 9 * s
  | 0, _ => Nat.le_refl 0
  | s + 1, h => by
    have h1 := sq_n1_le hV s (by omega)
    have h2 := (hV.2.2.2.2.2.1 s (by omega)).1
    rw [sq_n1]
    split <;> omega
theorem sq_n2_le {τ : Nat → Nat} (hV : rt_V τ) : ∀ s, s ≤ 4 → sq_n2 τ s ≤ 60
  | 0, _ => by
    have h1 := sq_n1_le hV (τ 0) hV.1
    have h0 := hV.1
    rw [sq_n2]
    omega
  | s + 1, h => by
    have h1 := sq_n2_le hV s (by omega)
    have h2 := (hV.2.2.2.2.2.1 s (by omega)).1
    have h3 := hV.2.2.1
    rw [sq_n2]
    split
    · split
      · rename_i h4
        rw [nI_leI (by omega) (by omega)] at h4
        omega
      · exact h1
    · exact h1
theorem sq_pr_le {τ : Nat → Nat} (hV : rt_V τ) : sq_pr τ ≤ 60 := sq_n2_le hV _ hV.1
theorem sq_rt_of {τ : Nat → Nat} {i j : Nat} (h : j < 42 ∨ 60 ≤ j ∨ j % 3 ≠ 0) (hi : i ≤ 6) : sq_rt τ i j = τ j := by
  unfold sq_rt
  rw [if_neg]
  rintro ⟨h1, h2, h3, -⟩
  omega
theorem sq_rt_s {τ : Nat → Nat} {i r : Nat} : sq_rt τ i (42 + 3 * r) = if r < i ∧ sq_ri τ r = true then τ (42 + 3 * r) + 1 else τ (42 + 3 * r) := by
  unfold sq_rt
  by_cases h : r < i ∧ sq_ri τ r = true
  · rw [if_pos h, if_pos ⟨by omega, by omega, by omega, by rw [show (42 + 3 * r - 42) / 3 = r by omega]; exact h.2⟩]
  · rw [if_neg h, if_neg]
    rintro ⟨h1, h2, h3, h4⟩
    rw [show (42 + 3 * r - 42) / 3 = r by omega] at h4
    exact h ⟨by omega, h4⟩
theorem sq_ag_rt {τ : Nat → Nat} {i k : Nat} (hi : i ≤ 6) (hk : 1 ≤ k) : sq_ag (sq_rt τ i) k = sq_ag τ k := by
  unfold sq_ag
  rw [sq_rt_of (j := 4) (Or.inl (by omega)) hi, sq_rt_of (j := 59 + k) (Or.inr (Or.inl (by omega))) hi, sq_rt_of (j := 2) (Or.inl (by omega)) hi]
theorem sq_pp_rt {τ : Nat → Nat} {i : Nat} (hi : i ≤ 6) : ∀ n, n ≤ 4 → sq_pp (sq_rt τ i) n = sq_pp τ n
  | 0, _ => rfl
  | n + 1, h => by rw [sq_pp, sq_pp, sq_pp_rt hi n (by omega), sq_rt_of (Or.inl (by omega)) hi]
theorem sq_sm_rt {τ : Nat → Nat} {i : Nat} (hi : i ≤ 6) : ∀ n, sq_sm (sq_rt τ i) n = sq_sm τ n
  | 0 => rfl
  | n + 1 => by rw [sq_sm, sq_sm, sq_sm_rt hi n, sq_ag_rt hi (by omega)]
theorem sq_fo_rt {τ : Nat → Nat} {i k n : Nat} (hi : i ≤ 6) (h0 : τ 0 ≤ 4) (hn : 1 ≤ n) : sq_fo (sq_rt τ i) k n = sq_fo τ k n := by
  unfold sq_fo
  rw [sq_ag_rt hi hn, sq_sm_rt hi, sq_rt_of (j := 0) (Or.inl (by omega)) hi, sq_pp_rt hi _ h0, sq_ag_rt hi (Nat.le_refl 1)]
theorem sq_fb_rt {τ : Nat → Nat} (hV : rt_V τ) {i r : Nat} (hi : i ≤ 6) (hr : r < τ 1) : sq_fb (sq_rt τ i) r = sq_fb τ r := by
  unfold sq_fb
  rw [sq_rt_of (j := 40 + 3 * r) (Or.inr (Or.inr (by omega))) hi, sq_rt_of (j := 41 + 3 * r) (Or.inr (Or.inr (by omega))) hi, sq_fo_rt hi hV.1 (hV.2.2.2.2.2.2.2.2.1 r hr)]
theorem rt_V_rt {τ : Nat → Nat} (hV : rt_V τ) {i : Nat} (hi : i ≤ 6) : rt_V (sq_rt τ i) := by
  obtain ⟨h0, h1, h2, h4, h5, hs, hs2, hr, hr2, hw⟩ := hV
  have e : ∀ j, (j < 42 ∨ 60 ≤ j ∨ j % 3 ≠ 0) → sq_rt τ i j = τ j := fun j h => sq_rt_of h hi
  refine ⟨by rw [e _ (by omega)]; exact h0, by rw [e _ (by omega)]; exact h1, by rw [e _ (by omega)]; exact h2, by rw [e _ (by omega)]; exact h4, by rw [e _ (by omega)]; exact h5, fun s hs9 => ?_, fun s hs9 => ?_, fun r hr9 => ?_, fun r hr9 => ?_, fun w hw9 => ?_⟩
  · rw [e _ (by omega), e _ (by omega), e _ (by omega), e _ (by omega), e _ (by omega), e _ (by omega)]; exact hs s hs9
  · rw [e 0 (by omega)] at hs9
    rw [e _ (by omega), e _ (by omega), e _ (by omega), e _ (by omega)]; exact hs2 s hs9
  · rw [e _ (by omega), e _ (by omega)]; exact hr r hr9
  · rw [e 1 (by omega)] at hr9
    rw [e _ (by omega)]; exact hr2 r hr9
  · rw [e _ (by omega)]; exact hw w hw9
theorem rt_V_st {τ : Nat → Nat} (hV : rt_V τ) : rt_V (sq_st τ) := by
  have hp : sq_pr τ ≤ 60 := sq_pr_le hV
  have hV2 := rt_V_rt hV (i := τ 1) hV.2.1
  obtain ⟨h0, h1, h2, h4, h5, hs, hs2, hr, hr2, hw⟩ := hV2
  have e : ∀ j, j ≠ 3 → j ≠ 4 → j < 60 → sq_st τ j = sq_rt τ (τ 1) j := fun j h1 h2 h3 => by
    rw [sq_st, if_neg h1, sq_mem, if_neg h2, if_neg (by omega), if_neg (by omega)]
  refine ⟨by rw [e _ (by omega) (by omega) (by omega)]; exact h0, by rw [e _ (by omega) (by omega) (by omega)]; exact h1, by rw [e _ (by omega) (by omega) (by omega)]; exact h2, by rw [sq_st, if_neg (by omega), sq_mem, if_pos rfl]; omega, by rw [e _ (by omega) (by omega) (by omega)]; exact h5, fun s hs9 => ?_, fun s hs9 => ?_, fun r hr9 => ?_, fun r hr9 => ?_, fun w hw9 => ?_⟩
  · rw [e _ (by omega) (by omega) (by omega), e _ (by omega) (by omega) (by omega), e _ (by omega) (by omega) (by omega), e _ (by omega) (by omega) (by omega), e _ (by omega) (by omega) (by omega), e _ (by omega) (by omega) (by omega)]; exact hs s hs9
  · rw [e 0 (by omega) (by omega) (by omega)] at hs9
    have : s < 4 := by omega
    rw [e _ (by omega) (by omega) (by omega), e _ (by omega) (by omega) (by omega), e _ (by omega) (by omega) (by omega), e _ (by omega) (by omega) (by omega)]; exact hs2 s hs9
  · rw [e _ (by omega) (by omega) (by omega), e _ (by omega) (by omega) (by omega)]; exact hr r hr9
  · rw [e 1 (by omega) (by omega) (by omega)] at hr9
    have : r < 6 := by omega
    rw [e _ (by omega) (by omega) (by omega)]; exact hr2 r hr9
  · rw [sq_st, if_neg (by omega), sq_mem, if_neg (by omega)]
    split
    · exact hp
    · split
      · rw [show 60 + w - 1 = 60 + (w - 1) by omega]; exact hw (w - 1) (by omega)
      · exact hw w hw9
/-! frames -/
def rt_F (b : Nat) (h h' : az_H) : Prop := (∀ a, a ≠ b → a ≠ b + 14 → h' a = h a) ∧ ∀ j, j ≠ 8 → j < 100 → h' b j = h b j
theorem rt_F.rf {b : Nat} {h : az_H} : rt_F b h h := ⟨fun _ _ _ => rfl, fun _ _ _ => rfl⟩
theorem rt_F.tr {b : Nat} {h h1 h2 : az_H} (x : rt_F b h h1) (y : rt_F b h1 h2) : rt_F b h h2 := ⟨fun a p q => (y.1 a p q).trans (x.1 a p q), fun j p q => (y.2 j p q).trans (x.2 j p q)⟩
/-- as long as what the rules foretell (places 100 on of the town's own cell) is kept too -/
def rt_I (b : Nat) (h h' : az_H) : Prop := (∀ a, a ≠ b → a ≠ b + 14 → h' a = h a) ∧ ∀ j, j ≠ 8 → h' b j = h b j
theorem rt_I.rf {b : Nat} {h : az_H} : rt_I b h h := ⟨fun _ _ _ => rfl, fun _ _ => rfl⟩
theorem rt_I.tr {b : Nat} {h h1 h2 : az_H} (x : rt_I b h h1) (y : rt_I b h1 h2) : rt_I b h h2 := ⟨fun a p q => (y.1 a p q).trans (x.1 a p q), fun j p => (y.2 j p).trans (x.2 j p)⟩
theorem rt_I.F {b : Nat} {h h1 : az_H} (x : rt_I b h h1) : rt_F b h h1 := ⟨x.1, fun j p _ => x.2 j p⟩
/-- the rules were asked -/
def rt_U (b : Nat) (τ : Nat → Nat) (h : az_H) : Prop := ∀ r, r < τ 1 → h b (100 + r) = sq_fb τ r
theorem rt_U.I {b : Nat} {τ : Nat → Nat} {h h1 : az_H} (x : rt_U b τ h) (y : rt_I b h h1) : rt_U b τ h1 := fun r hr => (y.2 (100 + r) (by omega)).trans (x r hr)
theorem rt_T_F {b : Nat} {τ : Nat → Nat} {h h' : az_H} (hT : rt_T b τ h) (hF : rt_F b h h') : rt_T b τ h' := by
  obtain ⟨⟨t1, t2, t3, t4, t5, t6⟩, ts, tr, tw⟩ := hT
  have e : ∀ k, 1 ≤ k → k ≤ 13 → h' (b + k) = h (b + k) := fun k h1 h2 => hF.1 _ (by omega) (by omega)
  refine ⟨⟨?_, ?_, ?_, ?_, ?_, ?_⟩, fun i hi => ?_, fun i hi => ?_, fun i hi => ?_⟩
  · rw [hF.2 3 (by omega) (by omega)]; exact t1
  · rw [hF.2 4 (by omega) (by omega)]; exact t2
  · rw [hF.2 5 (by omega) (by omega)]; exact t3
  · rw [e 1 (by omega) (by omega)]; exact t4
  · rw [e 8 (by omega) (by omega)]; exact t5
  · rw [e 12 (by omega) (by omega)]; exact t6
  · rw [e 2 (by omega) (by omega), e 3 (by omega) (by omega), e 4 (by omega) (by omega), e 5 (by omega) (by omega), e 6 (by omega) (by omega), e 7 (by omega) (by omega)]; exact ts i hi
  · rw [e 9 (by omega) (by omega), e 10 (by omega) (by omega), e 11 (by omega) (by omega)]; exact tr i hi
  · rw [e 13 (by omega) (by omega)]; exact tw i hi
/-- what is decided -/
def rt_D (b : Nat) (τ : Nat → Nat) (h h' : az_H) : Prop := rt_F b h h' ∧ h' b 8 = nI (sq_pr τ) ∧ ∀ s, s < τ 0 → h' (b + 14) s = sq_b (sq_go τ s)
def rt_DI (b : Nat) (τ : Nat → Nat) (h h' : az_H) : Prop := rt_I b h h' ∧ h' b 8 = nI (sq_pr τ) ∧ ∀ s, s < τ 0 → h' (b + 14) s = sq_b (sq_go τ s)
/-- the weeks, moved on from place i -/
def az_sh (h : az_H) (k i : Nat) : az_H := fun a => if a = k then (fun j => if i < j ∧ j < 8 then h k (j - 1) else h k j) else h a
theorem az_sh_7 {h : az_H} {k : Nat} : az_sh h k 7 = h := by
  funext a
  by_cases ha : a = k
  · subst ha
    funext j
    simp [az_sh, show ¬ (7 < j ∧ j < 8) by omega]
  · simp [az_sh, ha]
theorem az_sh_s {h : az_H} {k i : Nat} (hi : i < 7) : az_up (az_sh h k (i + 1)) k (i + 1) (az_sh h k (i + 1) k i) = az_sh h k i := by
  funext a
  by_cases ha : a = k
  · subst ha
    funext j
    by_cases hj : j = i + 1
    · subst hj
      simp [az_up, upd, az_sh, show i < i + 1 ∧ i + 1 < 8 by omega, show ¬ (i + 1 < i) by omega]
    · by_cases h1 : i < j ∧ j < 8
      · have h2 : i + 1 < j ∧ j < 8 := by omega
        simp [az_up, upd, az_sh, hj, h1, h2]
      · have h2 : ¬ (i + 1 < j ∧ j < 8) := by omega
        simp [az_up, upd, az_sh, hj, h1, h2]
  · simp [az_up, az_sh, ha]
set_option maxRecDepth 100000 in
theorem ct_wants_1 {sc : az_S} {τ : Nat → Nat} {h : az_H} (hT : rt_T 1 τ h) (hV : rt_V τ) (hU : rt_U 1 τ h) {x : Int32} {j : Nat} (hj : j < τ 0) (hx : x = nI j) : az_F sc az_m_X6_wantsToGo [.ref 1, .int x] h (some (.int (sq_b (sq_gs τ j)))) h := by
  have e0 : h 2 6 = nI (τ 0) := hT.1.2.2.2.1
  have e1 : h 9 3 = nI (τ 1) := hT.1.2.2.2.2.1
  have e2 : h 1 3 = nI (τ 2) := hT.1.1
  have e3 : h 1 5 = nI (τ 3) := hT.1.2.2.1
  have e4 : h 13 1 = nI (τ 4) := hT.1.2.2.2.2.2
  have e5 : h 1 4 = nI (τ 5) := hT.1.2.1
  have b0 : τ 0 ≤ 4 := hV.1
  have b1 : τ 1 ≤ 6 := hV.2.1
  have b2 : τ 2 ≤ 60 := hV.2.2.1
  have b4 : τ 4 ≤ 8 := hV.2.2.2.1
  have hk := (hV.2.2.2.2.2.1 j (by omega)).2.1
  have hf9 := (hV.2.2.2.2.2.1 j (by omega)).2.2.1
  refine az_F.of ?_
  rcases (show τ (11 + 6 * j) = 0 ∨ τ (11 + 6 * j) = 1 ∨ τ (11 + 6 * j) = 2 ∨ τ (11 + 6 * j) = 3 ∨ τ (11 + 6 * j) = 4 ∨ τ (11 + 6 * j) = 5 by omega) with hk | hk | hk | hk | hk | hk
  · refine az_er 4 rfl ?_
    refine az_ecallF rfl rfl rfl rfl (ct_atI rfl hx (by omega) (by decide) (hT.2.1 j (by omega)).2.2.1) ?_
    refine az_er 5 rfl ?_
    refine az_ecallF rfl rfl rfl rfl (ct_atI rfl hx (by omega) (by decide) (show h 4 j = nI 0 from ((hT.2.1 j (by omega)).2.1).trans (congrArg nI hk))) ?_
    refine az_er 2 rfl ?_
    refine az_eret rfl rfl rfl ?_
    exact ⟨by simp [sq_gs, hk, sq_b], rfl⟩
  · refine az_er 4 rfl ?_
    refine az_ecallF rfl rfl rfl rfl (ct_atI rfl hx (by omega) (by decide) (hT.2.1 j (by omega)).2.2.1) ?_
    refine az_er 5 rfl ?_
    refine az_ecallF rfl rfl rfl rfl (ct_atI rfl hx (by omega) (by decide) (show h 4 j = nI 1 from ((hT.2.1 j (by omega)).2.1).trans (congrArg nI hk))) ?_
    refine az_er 2 rfl ?_
    refine az_eret rfl rfl rfl ?_
    exact ⟨by simp [sq_gs, hk, sq_b], rfl⟩
  · refine az_er 4 rfl ?_
    refine az_ecallF rfl rfl rfl rfl (ct_atI rfl hx (by omega) (by decide) (hT.2.1 j (by omega)).2.2.1) ?_
    refine az_er 5 rfl ?_
    refine az_ecallF rfl rfl rfl rfl (ct_atI rfl hx (by omega) (by decide) (show h 4 j = nI 2 from ((hT.2.1 j (by omega)).2.1).trans (congrArg nI hk))) ?_
    refine az_er 4 rfl ?_
    refine az_ecallF rfl rfl rfl rfl (ct_atV rfl rfl (show (τ (12 + 6 * j)) < 6 by have := (hV.2.2.2.2.2.2.1 j hj).2 (Or.inl hk); omega) (by decide) (show h 1 (100 + (τ (12 + 6 * j))) = sq_fb τ ((τ (12 + 6 * j))) from hU _ ((hV.2.2.2.2.2.2.1 j hj).2 (Or.inl hk)))) ?_
    refine az_er 2 rfl ?_
    rw [e2]
    refine az_ic_gt rfl rfl (fun c70 => ?_) (fun c70 => ?_)
    · refine az_er 1 rfl ?_
      refine az_eret rfl rfl rfl ?_
      first | exact ⟨by rw [sq_gs2 hk, sq_ok, sq_bf (Int32.not_le.mpr c70)]; rfl, rfl⟩ | exact ⟨by rw [sq_gs2 hk, sq_ok, sq_bt (Int32.not_lt.mp c70)]; rfl, rfl⟩
    · refine az_er 2 rfl ?_
      refine az_eret rfl rfl rfl ?_
      first | exact ⟨by rw [sq_gs2 hk, sq_ok, sq_bf (Int32.not_le.mpr c70)]; rfl, rfl⟩ | exact ⟨by rw [sq_gs2 hk, sq_ok, sq_bt (Int32.not_lt.mp c70)]; rfl, rfl⟩
  · refine az_er 4 rfl ?_
    refine az_ecallF rfl rfl rfl rfl (ct_atI rfl hx (by omega) (by decide) (hT.2.1 j (by omega)).2.2.1) ?_
    refine az_er 5 rfl ?_
    refine az_ecallF rfl rfl rfl rfl (ct_atI rfl hx (by omega) (by decide) (show h 4 j = nI 3 from ((hT.2.1 j (by omega)).2.1).trans (congrArg nI hk))) ?_
    refine az_er 6 rfl ?_
    refine az_ecallF rfl rfl rfl rfl (ct_mostRight_1 hT hV (show τ (12 + 6 * j) < 6 by have := (hV.2.2.2.2.2.2.1 j hj).2 (Or.inr hk); omega) rfl) ?_
    refine az_ecallF rfl rfl rfl rfl (ct_atV rfl rfl (show (sq_hat τ (τ (12 + 6 * j))) < 6 by have := sq_hat_lt ((hV.2.2.2.2.2.2.1 j hj).2 (Or.inr hk)); omega) (by decide) (show h 1 (100 + (sq_hat τ (τ (12 + 6 * j)))) = sq_fb τ ((sq_hat τ (τ (12 + 6 * j)))) from hU _ (sq_hat_lt ((hV.2.2.2.2.2.2.1 j hj).2 (Or.inr hk))))) ?_
    refine az_er 2 rfl ?_
    rw [e2]
    refine az_ic_gt rfl rfl (fun c98 => ?_) (fun c98 => ?_)
    · refine az_er 1 rfl ?_
      refine az_eret rfl rfl rfl ?_
      first | exact ⟨by rw [sq_gs3 hk, sq_ok, sq_bf (Int32.not_le.mpr c98)]; rfl, rfl⟩ | exact ⟨by rw [sq_gs3 hk, sq_ok, sq_bt (Int32.not_lt.mp c98)]; rfl, rfl⟩
    · refine az_er 2 rfl ?_
      refine az_eret rfl rfl rfl ?_
      first | exact ⟨by rw [sq_gs3 hk, sq_ok, sq_bf (Int32.not_le.mpr c98)]; rfl, rfl⟩ | exact ⟨by rw [sq_gs3 hk, sq_ok, sq_bt (Int32.not_lt.mp c98)]; rfl, rfl⟩
  · refine az_er 4 rfl ?_
    refine az_ecallF rfl rfl rfl rfl (ct_atI rfl hx (by omega) (by decide) (hT.2.1 j (by omega)).2.2.1) ?_
    refine az_er 5 rfl ?_
    refine az_ecallF rfl rfl rfl rfl (ct_atI rfl hx (by omega) (by decide) (show h 4 j = nI 4 from ((hT.2.1 j (by omega)).2.1).trans (congrArg nI hk))) ?_
    refine az_er 6 rfl ?_
    rw [e3, show nI (τ (12 + 6 * j)) + Int32.ofInt 1 = nI (τ (12 + 6 * j) + 1) from nI_1' _]
    refine az_ecallF rfl rfl rfl rfl (ct_remainder) ?_
    rw [if_neg (nI_nle (by omega) (by omega))]
    refine az_if_ne rfl rfl (fun c117 => ?_) (fun c117 => ?_)
    · refine az_er 1 rfl ?_
      refine az_eret rfl rfl rfl ?_
      exact ⟨by simp [sq_gs, hk, sq_b, c117], rfl⟩
    · refine az_er 2 rfl ?_
      refine az_eret rfl rfl rfl ?_
      exact ⟨by simp [sq_gs, hk, sq_b, c117], rfl⟩
  · refine az_er 4 rfl ?_
    refine az_ecallF rfl rfl rfl rfl (ct_atI rfl hx (by omega) (by decide) (hT.2.1 j (by omega)).2.2.1) ?_
    refine az_er 5 rfl ?_
    refine az_ecallF rfl rfl rfl rfl (ct_atI rfl hx (by omega) (by decide) (show h 4 j = nI 5 from ((hT.2.1 j (by omega)).2.1).trans (congrArg nI hk))) ?_
    refine az_er 2 rfl ?_
    refine az_eret rfl rfl rfl ?_
    exact ⟨by simp [sq_gs, hk, sq_b], rfl⟩
set_option maxRecDepth 100000 in
theorem ct_settle_1 {sc : az_S} {τ : Nat → Nat} {h : az_H} (hT : rt_T 1 τ h) (hV : rt_V τ) {x : Int32} {j : Nat} {g : Bool} (hj : j < 4) (hx : x = nI j) : az_F sc az_m_X6_settle [.ref 1, .int x, .int (sq_b g)] h none (bif g then az_up (az_up h 15 j 1) 1 8 (az_up h 15 j 1 1 8 + nI (τ (10 + 6 * j))) else az_up h 15 j 0) := by
  have e0 : h 2 6 = nI (τ 0) := hT.1.2.2.2.1
  have e1 : h 9 3 = nI (τ 1) := hT.1.2.2.2.2.1
  have e2 : h 1 3 = nI (τ 2) := hT.1.1
  have e3 : h 1 5 = nI (τ 3) := hT.1.2.2.1
  have e4 : h 13 1 = nI (τ 4) := hT.1.2.2.2.2.2
  have e5 : h 1 4 = nI (τ 5) := hT.1.2.1
  have b0 : τ 0 ≤ 4 := hV.1
  have b1 : τ 1 ≤ 6 := hV.2.1
  have b2 : τ 2 ≤ 60 := hV.2.2.1
  have b4 : τ 4 ≤ 8 := hV.2.2.2.1
  refine az_F.of ?_
  cases g
  · refine az_er 4 rfl ?_
    refine az_if_eq rfl rfl (fun c6 => ?_) (fun c6 => absurd (show sq_b false = 0 from rfl) c6)
    refine az_er 1 rfl ?_
    refine az_ecallF rfl rfl rfl rfl (ct_putI rfl hx hj (by decide)) ?_
    refine az_er 1 rfl ?_
    refine az_if_eq rfl rfl (fun c18 => ?_) (fun c18 => absurd (show sq_b false = 0 from rfl) c18)
    refine az_eret rfl rfl rfl ?_
    exact ⟨rfl, rfl⟩
  · refine az_er 4 rfl ?_
    refine az_if_eq rfl rfl (fun c6 => absurd c6 (show ¬ sq_b true = 0 by decide)) (fun c6 => ?_)
    refine az_er 2 rfl ?_
    refine az_ecallF rfl rfl rfl rfl (ct_putI rfl hx hj (by decide)) ?_
    refine az_er 1 rfl ?_
    refine az_if_eq rfl rfl (fun c18 => absurd c18 (show ¬ sq_b true = 0 by decide)) (fun c18 => ?_)
    refine az_er 7 rfl ?_
    refine az_ecallF rfl rfl rfl rfl (ct_atI (v := nI (τ (10 + 6 * j))) rfl hx hj (by decide) (by rw [az_up_o (by decide)]; exact (hT.2.1 j hj).1)) ?_
    refine az_er 2 rfl ?_
    refine az_eret rfl rfl rfl ?_
    exact ⟨rfl, rfl⟩
set_option maxRecDepth 100000 in
theorem ct_wants_16 {sc : az_S} {τ : Nat → Nat} {h : az_H} (hT : rt_T 16 τ h) (hV : rt_V τ) (hU : rt_U 16 τ h) {x : Int32} {j : Nat} (hj : j < τ 0) (hx : x = nI j) : az_F sc az_m_X6_wantsToGo [.ref 16, .int x] h (some (.int (sq_b (sq_gs τ j)))) h := by
  have e0 : h 17 6 = nI (τ 0) := hT.1.2.2.2.1
  have e1 : h 24 3 = nI (τ 1) := hT.1.2.2.2.2.1
  have e2 : h 16 3 = nI (τ 2) := hT.1.1
  have e3 : h 16 5 = nI (τ 3) := hT.1.2.2.1
  have e4 : h 28 1 = nI (τ 4) := hT.1.2.2.2.2.2
  have e5 : h 16 4 = nI (τ 5) := hT.1.2.1
  have b0 : τ 0 ≤ 4 := hV.1
  have b1 : τ 1 ≤ 6 := hV.2.1
  have b2 : τ 2 ≤ 60 := hV.2.2.1
  have b4 : τ 4 ≤ 8 := hV.2.2.2.1
  have hk := (hV.2.2.2.2.2.1 j (by omega)).2.1
  have hf9 := (hV.2.2.2.2.2.1 j (by omega)).2.2.1
  refine az_F.of ?_
  rcases (show τ (11 + 6 * j) = 0 ∨ τ (11 + 6 * j) = 1 ∨ τ (11 + 6 * j) = 2 ∨ τ (11 + 6 * j) = 3 ∨ τ (11 + 6 * j) = 4 ∨ τ (11 + 6 * j) = 5 by omega) with hk | hk | hk | hk | hk | hk
  · refine az_er 4 rfl ?_
    refine az_ecallF rfl rfl rfl rfl (ct_atI rfl hx (by omega) (by decide) (hT.2.1 j (by omega)).2.2.1) ?_
    refine az_er 5 rfl ?_
    refine az_ecallF rfl rfl rfl rfl (ct_atI rfl hx (by omega) (by decide) (show h 19 j = nI 0 from ((hT.2.1 j (by omega)).2.1).trans (congrArg nI hk))) ?_
    refine az_er 2 rfl ?_
    refine az_eret rfl rfl rfl ?_
    exact ⟨by simp [sq_gs, hk, sq_b], rfl⟩
  · refine az_er 4 rfl ?_
    refine az_ecallF rfl rfl rfl rfl (ct_atI rfl hx (by omega) (by decide) (hT.2.1 j (by omega)).2.2.1) ?_
    refine az_er 5 rfl ?_
    refine az_ecallF rfl rfl rfl rfl (ct_atI rfl hx (by omega) (by decide) (show h 19 j = nI 1 from ((hT.2.1 j (by omega)).2.1).trans (congrArg nI hk))) ?_
    refine az_er 2 rfl ?_
    refine az_eret rfl rfl rfl ?_
    exact ⟨by simp [sq_gs, hk, sq_b], rfl⟩
  · refine az_er 4 rfl ?_
    refine az_ecallF rfl rfl rfl rfl (ct_atI rfl hx (by omega) (by decide) (hT.2.1 j (by omega)).2.2.1) ?_
    refine az_er 5 rfl ?_
    refine az_ecallF rfl rfl rfl rfl (ct_atI rfl hx (by omega) (by decide) (show h 19 j = nI 2 from ((hT.2.1 j (by omega)).2.1).trans (congrArg nI hk))) ?_
    refine az_er 4 rfl ?_
    refine az_ecallF rfl rfl rfl rfl (ct_atV rfl rfl (show (τ (12 + 6 * j)) < 6 by have := (hV.2.2.2.2.2.2.1 j hj).2 (Or.inl hk); omega) (by decide) (show h 16 (100 + (τ (12 + 6 * j))) = sq_fb τ ((τ (12 + 6 * j))) from hU _ ((hV.2.2.2.2.2.2.1 j hj).2 (Or.inl hk)))) ?_
    refine az_er 2 rfl ?_
    rw [e2]
    refine az_ic_gt rfl rfl (fun c70 => ?_) (fun c70 => ?_)
    · refine az_er 1 rfl ?_
      refine az_eret rfl rfl rfl ?_
      first | exact ⟨by rw [sq_gs2 hk, sq_ok, sq_bf (Int32.not_le.mpr c70)]; rfl, rfl⟩ | exact ⟨by rw [sq_gs2 hk, sq_ok, sq_bt (Int32.not_lt.mp c70)]; rfl, rfl⟩
    · refine az_er 2 rfl ?_
      refine az_eret rfl rfl rfl ?_
      first | exact ⟨by rw [sq_gs2 hk, sq_ok, sq_bf (Int32.not_le.mpr c70)]; rfl, rfl⟩ | exact ⟨by rw [sq_gs2 hk, sq_ok, sq_bt (Int32.not_lt.mp c70)]; rfl, rfl⟩
  · refine az_er 4 rfl ?_
    refine az_ecallF rfl rfl rfl rfl (ct_atI rfl hx (by omega) (by decide) (hT.2.1 j (by omega)).2.2.1) ?_
    refine az_er 5 rfl ?_
    refine az_ecallF rfl rfl rfl rfl (ct_atI rfl hx (by omega) (by decide) (show h 19 j = nI 3 from ((hT.2.1 j (by omega)).2.1).trans (congrArg nI hk))) ?_
    refine az_er 6 rfl ?_
    refine az_ecallF rfl rfl rfl rfl (ct_mostRight_16 hT hV (show τ (12 + 6 * j) < 6 by have := (hV.2.2.2.2.2.2.1 j hj).2 (Or.inr hk); omega) rfl) ?_
    refine az_ecallF rfl rfl rfl rfl (ct_atV rfl rfl (show (sq_hat τ (τ (12 + 6 * j))) < 6 by have := sq_hat_lt ((hV.2.2.2.2.2.2.1 j hj).2 (Or.inr hk)); omega) (by decide) (show h 16 (100 + (sq_hat τ (τ (12 + 6 * j)))) = sq_fb τ ((sq_hat τ (τ (12 + 6 * j)))) from hU _ (sq_hat_lt ((hV.2.2.2.2.2.2.1 j hj).2 (Or.inr hk))))) ?_
    refine az_er 2 rfl ?_
    rw [e2]
    refine az_ic_gt rfl rfl (fun c98 => ?_) (fun c98 => ?_)
    · refine az_er 1 rfl ?_
      refine az_eret rfl rfl rfl ?_
      first | exact ⟨by rw [sq_gs3 hk, sq_ok, sq_bf (Int32.not_le.mpr c98)]; rfl, rfl⟩ | exact ⟨by rw [sq_gs3 hk, sq_ok, sq_bt (Int32.not_lt.mp c98)]; rfl, rfl⟩
    · refine az_er 2 rfl ?_
      refine az_eret rfl rfl rfl ?_
      first | exact ⟨by rw [sq_gs3 hk, sq_ok, sq_bf (Int32.not_le.mpr c98)]; rfl, rfl⟩ | exact ⟨by rw [sq_gs3 hk, sq_ok, sq_bt (Int32.not_lt.mp c98)]; rfl, rfl⟩
  · refine az_er 4 rfl ?_
    refine az_ecallF rfl rfl rfl rfl (ct_atI rfl hx (by omega) (by decide) (hT.2.1 j (by omega)).2.2.1) ?_
    refine az_er 5 rfl ?_
    refine az_ecallF rfl rfl rfl rfl (ct_atI rfl hx (by omega) (by decide) (show h 19 j = nI 4 from ((hT.2.1 j (by omega)).2.1).trans (congrArg nI hk))) ?_
    refine az_er 6 rfl ?_
    rw [e3, show nI (τ (12 + 6 * j)) + Int32.ofInt 1 = nI (τ (12 + 6 * j) + 1) from nI_1' _]
    refine az_ecallF rfl rfl rfl rfl (ct_remainder) ?_
    rw [if_neg (nI_nle (by omega) (by omega))]
    refine az_if_ne rfl rfl (fun c117 => ?_) (fun c117 => ?_)
    · refine az_er 1 rfl ?_
      refine az_eret rfl rfl rfl ?_
      exact ⟨by simp [sq_gs, hk, sq_b, c117], rfl⟩
    · refine az_er 2 rfl ?_
      refine az_eret rfl rfl rfl ?_
      exact ⟨by simp [sq_gs, hk, sq_b, c117], rfl⟩
  · refine az_er 4 rfl ?_
    refine az_ecallF rfl rfl rfl rfl (ct_atI rfl hx (by omega) (by decide) (hT.2.1 j (by omega)).2.2.1) ?_
    refine az_er 5 rfl ?_
    refine az_ecallF rfl rfl rfl rfl (ct_atI rfl hx (by omega) (by decide) (show h 19 j = nI 5 from ((hT.2.1 j (by omega)).2.1).trans (congrArg nI hk))) ?_
    refine az_er 2 rfl ?_
    refine az_eret rfl rfl rfl ?_
    exact ⟨by simp [sq_gs, hk, sq_b], rfl⟩
set_option maxRecDepth 100000 in
theorem ct_settle_16 {sc : az_S} {τ : Nat → Nat} {h : az_H} (hT : rt_T 16 τ h) (hV : rt_V τ) {x : Int32} {j : Nat} {g : Bool} (hj : j < 4) (hx : x = nI j) : az_F sc az_m_X6_settle [.ref 16, .int x, .int (sq_b g)] h none (bif g then az_up (az_up h 30 j 1) 16 8 (az_up h 30 j 1 16 8 + nI (τ (10 + 6 * j))) else az_up h 30 j 0) := by
  have e0 : h 17 6 = nI (τ 0) := hT.1.2.2.2.1
  have e1 : h 24 3 = nI (τ 1) := hT.1.2.2.2.2.1
  have e2 : h 16 3 = nI (τ 2) := hT.1.1
  have e3 : h 16 5 = nI (τ 3) := hT.1.2.2.1
  have e4 : h 28 1 = nI (τ 4) := hT.1.2.2.2.2.2
  have e5 : h 16 4 = nI (τ 5) := hT.1.2.1
  have b0 : τ 0 ≤ 4 := hV.1
  have b1 : τ 1 ≤ 6 := hV.2.1
  have b2 : τ 2 ≤ 60 := hV.2.2.1
  have b4 : τ 4 ≤ 8 := hV.2.2.2.1
  refine az_F.of ?_
  cases g
  · refine az_er 4 rfl ?_
    refine az_if_eq rfl rfl (fun c6 => ?_) (fun c6 => absurd (show sq_b false = 0 from rfl) c6)
    refine az_er 1 rfl ?_
    refine az_ecallF rfl rfl rfl rfl (ct_putI rfl hx hj (by decide)) ?_
    refine az_er 1 rfl ?_
    refine az_if_eq rfl rfl (fun c18 => ?_) (fun c18 => absurd (show sq_b false = 0 from rfl) c18)
    refine az_eret rfl rfl rfl ?_
    exact ⟨rfl, rfl⟩
  · refine az_er 4 rfl ?_
    refine az_if_eq rfl rfl (fun c6 => absurd c6 (show ¬ sq_b true = 0 by decide)) (fun c6 => ?_)
    refine az_er 2 rfl ?_
    refine az_ecallF rfl rfl rfl rfl (ct_putI rfl hx hj (by decide)) ?_
    refine az_er 1 rfl ?_
    refine az_if_eq rfl rfl (fun c18 => absurd c18 (show ¬ sq_b true = 0 by decide)) (fun c18 => ?_)
    refine az_er 7 rfl ?_
    refine az_ecallF rfl rfl rfl rfl (ct_atI (v := nI (τ (10 + 6 * j))) rfl hx hj (by decide) (by rw [az_up_o (by decide)]; exact (hT.2.1 j hj).1)) ?_
    refine az_er 2 rfl ?_
    refine az_eret rfl rfl rfl ?_
    exact ⟨rfl, rfl⟩
set_option maxRecDepth 100000 in
theorem lp_decide2_1 {sc : az_S} {τ : Nat → Nat} {h : az_H} (hT : rt_T 1 τ h) (hV : rt_V τ) (hU : rt_U 1 τ h) : ∀ (d i : Nat) (x : Int32) (hh : az_H), i ≤ τ 0 → τ 0 - i = d → x = nI i → rt_I 1 h hh → hh 1 8 = nI (sq_n2 τ i) → (∀ s, s < τ 0 → s < i ∨ τ (11 + 6 * s) ≠ 5 → hh 15 s = sq_b (sq_go τ s)) → az_E sc az_m_X6_askSorts 51 [.ref 1, .int x] [] hh (fun v h' => v = none ∧ rt_DI 1 τ h h') := by
  have e0 : h 2 6 = nI (τ 0) := hT.1.2.2.2.1
  have b0 : τ 0 ≤ 4 := hV.1
  have b1 : τ 1 ≤ 6 := hV.2.1
  have b2 : τ 2 ≤ 60 := hV.2.2.1
  have b4 : τ 4 ≤ 8 := hV.2.2.2.1
  intro d
  induction d with
  | zero =>
    intro i x hh hi hd hx hF hp hg
    have he : i = τ 0 := by omega
    have hT2 := rt_T_F hT hF.F
    have hU2 := hU.I hF
    have e0 : hh 2 6 = nI (τ 0) := hT2.1.2.2.2.1
    have e2 : hh 1 3 = nI (τ 2) := hT2.1.1
    refine az_er 4 rfl ?_
    refine az_ic_ge rfl rfl (fun c59 => ?_) (fun c59 => absurd (by rw [e0, hx, he]; exact nI_le (Nat.le_refl _) (by omega)) c59)
    refine az_eret rfl rfl rfl ?_
    exact ⟨rfl, hF, by rw [hp, he]; rfl, fun s hs => hg s hs (Or.inl (by omega))⟩
  | succ d ih =>
    intro i x hh hi hd hx hF hp hg
    have hlt : i < τ 0 := by omega
    have hk := (hV.2.2.2.2.2.1 i (by omega)).2.1
    have hm9 := (hV.2.2.2.2.2.1 i (by omega)).1
    have hn9 := sq_n2_le hV i (by omega)
    have hT2 := rt_T_F hT hF.F
    have hU2 := hU.I hF
    have e0 : hh 2 6 = nI (τ 0) := hT2.1.2.2.2.1
    have e2 : hh 1 3 = nI (τ 2) := hT2.1.1
    refine az_er 4 rfl ?_
    refine az_ic_ge rfl rfl (fun c59 => absurd c59 (by rw [e0, hx]; exact nI_ge hlt (by omega))) (fun c59 => ?_)
    refine az_er 4 rfl ?_
    refine az_ecallF rfl rfl rfl rfl (ct_atI (v := nI (τ (11 + 6 * i))) rfl hx (by omega) (by decide) (hT2.2.1 i (by omega)).2.1) ?_
    refine az_er 1 rfl ?_
    refine az_ic_ne rfl rfl (fun c74 => ?_) (fun c74 => ?_)
    · refine az_er 2 rfl ?_
      have hk5 : τ (11 + 6 * i) ≠ 5 := fun q => c74 (by rw [q]; rfl)
      refine ih (i + 1) _ hh (by omega) (by omega) (by rw [hx]; exact nI_1' i) hF (by rw [hp, sq_n2, if_neg hk5]) (fun s hs hs2 => hg s hs ?_)
      rcases hs2 with hs2 | hs2
      · rcases (show s < i ∨ s = i by omega) with h9 | rfl
        · exact Or.inl h9
        · exact Or.inr hk5
      · exact Or.inr hs2
    · refine az_er 8 rfl ?_
      refine az_ecallF rfl rfl rfl rfl (ct_atI (v := nI (τ (10 + 6 * i))) rfl hx (by omega) (by decide) (hT2.2.1 i (by omega)).1) ?_
      refine az_er 3 rfl ?_
      rw [hp, e2]
      refine az_ic_gt rfl rfl (fun c99 => ?_) (fun c99 => ?_)
      · refine az_er 1 rfl ?_
        refine az_ecallF rfl rfl rfl rfl (ct_settle_1 (g := false) hT2 hV (by omega) hx) ?_
        refine az_er 2 rfl ?_
        have hk5 : τ (11 + 6 * i) = 5 := (nI_eq (by omega) (by omega)).mp (show nI (τ (11 + 6 * i)) = nI 5 from c74)
        have hle : ¬ nI (sq_n2 τ i + τ (10 + 6 * i)) ≤ nI (τ 2) := by rw [← nI_add]; exact Int32.not_le.mpr c99
        have hgo : sq_go τ i = false := by rw [sq_go, if_pos hk5]; exact decide_eq_false hle
        refine ih (i + 1) _ _ (by omega) (by omega) (by rw [hx]; exact nI_1' i) (hF.tr ⟨fun a p q => by rw [cond_false, az_up_o q], fun j hj => by rw [cond_false, az_up_o (by decide)]⟩) (by rw [cond_false, az_up_o (by decide), hp, sq_n2, if_pos hk5, if_neg hle]) (fun s hs hs2 => ?_)
        rw [cond_false]
        by_cases h9 : s = i
        · subst h9
          rw [az_up_s, hgo]
          rfl
        · rw [az_up_n h9]
          exact hg s hs (by rcases hs2 with q | q; exact Or.inl (by omega); exact Or.inr q)
      · refine az_er 2 rfl ?_
        refine az_ecallF rfl rfl rfl rfl (ct_settle_1 (g := true) hT2 hV (by omega) hx) ?_
        refine az_er 2 rfl ?_
        have hk5 : τ (11 + 6 * i) = 5 := (nI_eq (by omega) (by omega)).mp (show nI (τ (11 + 6 * i)) = nI 5 from c74)
        have hle : nI (sq_n2 τ i + τ (10 + 6 * i)) ≤ nI (τ 2) := by rw [← nI_add]; exact Int32.not_lt.mp c99
        have hgo : sq_go τ i = true := by rw [sq_go, if_pos hk5]; exact decide_eq_true hle
        refine ih (i + 1) _ _ (by omega) (by omega) (by rw [hx]; exact nI_1' i) (hF.tr ⟨fun a p q => by rw [cond_true, az_up_o p, az_up_o q], fun j hj => by rw [cond_true, az_up_n hj, az_up_o (by decide)]⟩) (by rw [cond_true, az_up_s, az_up_o (by decide), hp, nI_add, sq_n2, if_pos hk5, if_pos hle]) (fun s hs hs2 => ?_)
        rw [cond_true, az_up_o (by decide)]
        by_cases h9 : s = i
        · subst h9
          rw [az_up_s, hgo]
          rfl
        · rw [az_up_n h9]
          exact hg s hs (by rcases hs2 with q | q; exact Or.inl (by omega); exact Or.inr q)
set_option maxRecDepth 100000 in
theorem lp_decide1_1 {sc : az_S} {τ : Nat → Nat} {h : az_H} (hT : rt_T 1 τ h) (hV : rt_V τ) (hU : rt_U 1 τ h) : ∀ (d i : Nat) (x : Int32) (hh : az_H), i ≤ τ 0 → τ 0 - i = d → x = nI i → rt_I 1 h hh → hh 1 8 = nI (sq_n1 τ i) → (∀ s, s < i → τ (11 + 6 * s) ≠ 5 → hh 15 s = sq_b (sq_go τ s)) → az_E sc az_m_X6_askSorts 7 [.ref 1, .int x] [] hh (fun v h' => v = none ∧ rt_DI 1 τ h h') := by
  have e0 : h 2 6 = nI (τ 0) := hT.1.2.2.2.1
  have b0 : τ 0 ≤ 4 := hV.1
  have b1 : τ 1 ≤ 6 := hV.2.1
  have b2 : τ 2 ≤ 60 := hV.2.2.1
  have b4 : τ 4 ≤ 8 := hV.2.2.2.1
  intro d
  induction d with
  | zero =>
    intro i x hh hi hd hx hF hp hg
    have he : i = τ 0 := by omega
    have hT2 := rt_T_F hT hF.F
    have hU2 := hU.I hF
    have e0 : hh 2 6 = nI (τ 0) := hT2.1.2.2.2.1
    have e2 : hh 1 3 = nI (τ 2) := hT2.1.1
    refine az_er 4 rfl ?_
    refine az_ic_ge rfl rfl (fun c15 => ?_) (fun c15 => absurd (by rw [e0, hx, he]; exact nI_le (Nat.le_refl _) (by omega)) c15)
    refine az_er 2 rfl ?_
    exact lp_decide2_1 hT hV hU (τ 0) 0 0 hh (Nat.zero_le _) (by omega) rfl hF (by rw [hp, he]; rfl) (fun s hs hs2 => hg s (by omega) (by rcases hs2 with q | q; omega; exact q))
  | succ d ih =>
    intro i x hh hi hd hx hF hp hg
    have hlt : i < τ 0 := by omega
    have hk := (hV.2.2.2.2.2.1 i (by omega)).2.1
    have hT2 := rt_T_F hT hF.F
    have hU2 := hU.I hF
    have e0 : hh 2 6 = nI (τ 0) := hT2.1.2.2.2.1
    have e2 : hh 1 3 = nI (τ 2) := hT2.1.1
    refine az_er 4 rfl ?_
    refine az_ic_ge rfl rfl (fun c15 => absurd c15 (by rw [e0, hx]; exact nI_ge hlt (by omega))) (fun c15 => ?_)
    refine az_er 4 rfl ?_
    refine az_ecallF rfl rfl rfl rfl (ct_atI (v := nI (τ (11 + 6 * i))) rfl hx (by omega) (by decide) (hT2.2.1 i (by omega)).2.1) ?_
    refine az_er 1 rfl ?_
    refine az_ic_eq rfl rfl (fun c30 => ?_) (fun c30 => ?_)
    · refine az_er 2 rfl ?_
      have hk5 : τ (11 + 6 * i) = 5 := (nI_eq (by omega) (by omega)).mp (show nI (τ (11 + 6 * i)) = nI 5 from c30)
      refine ih (i + 1) _ hh (by omega) (by omega) (by rw [hx]; exact nI_1' i) hF (by rw [hp, sq_n1, sq_gs5 hk5]; rfl) (fun s hs hs2 => ?_)
      rcases (show s < i ∨ s = i by omega) with h9 | rfl
      · exact hg s h9 hs2
      · exact absurd hk5 hs2
    · refine az_er 4 rfl ?_
      refine az_ecallF rfl rfl rfl rfl (ct_wants_1 hT2 hV hU2 hlt hx) ?_
      refine az_ecallF rfl rfl rfl rfl (ct_settle_1 hT2 hV (by omega) hx) ?_
      refine az_er 2 rfl ?_
      have hk5 : τ (11 + 6 * i) ≠ 5 := fun q => c30 (by rw [q]; rfl)
      have hgo : sq_go τ i = sq_gs τ i := by rw [sq_go, if_neg hk5]
      cases hgs : sq_gs τ i
      · refine ih (i + 1) _ _ (by omega) (by omega) (by rw [hx]; exact nI_1' i) (hF.tr ⟨fun a p q => by rw [cond_false, az_up_o q], fun j hj => by rw [cond_false, az_up_o (by decide)]⟩) (by rw [cond_false, az_up_o (by decide), hp, sq_n1, hgs]; rfl) (fun s hs hs2 => ?_)
        rw [cond_false]
        by_cases h9 : s = i
        · subst h9
          rw [az_up_s, hgo, hgs]
          rfl
        · rw [az_up_n h9]
          exact hg s (by omega) hs2
      · refine ih (i + 1) _ _ (by omega) (by omega) (by rw [hx]; exact nI_1' i) (hF.tr ⟨fun a p q => by rw [cond_true, az_up_o p, az_up_o q], fun j hj => by rw [cond_true, az_up_n hj, az_up_o (by decide)]⟩) (by rw [cond_true, az_up_s, az_up_o (by decide), hp, nI_add, sq_n1, hgs]; rfl) (fun s hs hs2 => ?_)
        rw [cond_true, az_up_o (by decide)]
        by_cases h9 : s = i
        · subst h9
          rw [az_up_s, hgo, hgs]
          rfl
        · rw [az_up_n h9]
          exact hg s (by omega) hs2
set_option maxRecDepth 100000 in
theorem ct_askSorts_1 {sc : az_S} {τ : Nat → Nat} {h : az_H} (hT : rt_T 1 τ h) (hV : rt_V τ) (hU : rt_U 1 τ h) : az_E sc az_m_X6_askSorts 0 [.ref 1] [] h (fun v h' => v = none ∧ rt_DI 1 τ h h') := by
  refine az_er 5 rfl ?_
  exact lp_decide1_1 hT hV hU (τ 0) 0 0 _ (Nat.zero_le _) (by omega) rfl ⟨fun a p q => az_up_o p, fun j hj => az_up_n hj⟩ az_up_s (fun s hs => absurd hs (Nat.not_lt_zero s))
set_option maxRecDepth 100000 in
theorem lp_askRules_1 {sc : az_S} {τ : Nat → Nat} {h : az_H} (hT : rt_T 1 τ h) (hV : rt_V τ) : ∀ (d i : Nat) (x : Int32) (hh : az_H), i ≤ τ 1 → τ 1 - i = d → x = nI i → (∀ r, r < i → hh 1 (100 + r) = sq_fb τ r) → (∀ a, a ≠ 1 → hh a = h a) → (∀ j, j < 100 → hh 1 j = h 1 j) → az_E sc az_m_X6_askRules 2 [.ref 1, .int x] [] hh (fun v h' => v = none ∧ rt_U 1 τ h' ∧ (∀ a, a ≠ 1 → h' a = h a) ∧ ∀ j, j < 100 → h' 1 j = h 1 j) := by
  have b0 : τ 0 ≤ 4 := hV.1
  have b1 : τ 1 ≤ 6 := hV.2.1
  have b2 : τ 2 ≤ 60 := hV.2.2.1
  have b4 : τ 4 ≤ 8 := hV.2.2.2.1
  intro d
  induction d with
  | zero =>
    intro i x hh hi hd hx hu hF hF2
    have he : i = τ 1 := by omega
    have hT2 : rt_T 1 τ hh := rt_T_F hT ⟨fun a p _ => hF a p, fun j _ p => hF2 j p⟩
    have e1 : hh 9 3 = nI (τ 1) := hT2.1.2.2.2.2.1
    refine az_er 4 rfl ?_
    refine az_ic_ge rfl rfl (fun c10 => ?_) (fun c10 => absurd (by rw [e1, hx, he]; exact nI_le (Nat.le_refl _) (by omega)) c10)
    refine az_eret rfl rfl rfl ?_
    exact ⟨rfl, fun r hr => hu r (by omega), hF, hF2⟩
  | succ d ih =>
    intro i x hh hi hd hx hu hF hF2
    have hlt : i < τ 1 := by omega
    have hT2 : rt_T 1 τ hh := rt_T_F hT ⟨fun a p _ => hF a p, fun j _ p => hF2 j p⟩
    have e1 : hh 9 3 = nI (τ 1) := hT2.1.2.2.2.2.1
    refine az_er 4 rfl ?_
    refine az_ic_ge rfl rfl (fun c10 => absurd c10 (by rw [e1, hx]; exact nI_ge hlt (by omega))) (fun c10 => ?_)
    refine az_er 8 rfl ?_
    refine az_ecallF rfl rfl rfl rfl (ct_atI rfl hx (by omega) (by decide) (hT2.2.2.1 i (by omega)).1) ?_
    refine az_er 4 rfl ?_
    refine az_ecallF rfl rfl rfl rfl (ct_atI rfl hx (by omega) (by decide) (hT2.2.2.1 i (by omega)).2.1) ?_
    refine az_ecallF rfl rfl rfl rfl (ct_foretells_1 hT2 hV ⟨hV.2.2.2.2.2.2.2.2.1 i hlt, (hV.2.2.2.2.2.2.2.1 i (by omega)).2⟩ rfl (hV.2.2.2.2.2.2.2.1 i (by omega)).1) ?_
    refine az_ecallF rfl rfl rfl rfl (ct_putV rfl hx (by omega) (by decide)) ?_
    refine az_er 2 rfl ?_
    refine ih (i + 1) _ _ (by omega) (by omega) (by rw [hx]; exact nI_1' i) (fun r hr => ?_) (fun a ha => (az_up_o ha).trans (hF a ha)) (fun j hj => (az_up_at (Or.inr (show j ≠ 100 + i by omega))).trans (hF2 j hj))
    show az_up hh 1 (100 + i) _ 1 (100 + r) = _
    by_cases h9 : r = i
    · subst h9
      rw [az_up_s]
      rfl
    · rw [az_up_n (by omega)]
      exact hu r (by omega)
set_option maxRecDepth 100000 in
theorem ct_askRules_1 {sc : az_S} {τ : Nat → Nat} {h : az_H} (hT : rt_T 1 τ h) (hV : rt_V τ) : az_E sc az_m_X6_askRules 0 [.ref 1] [] h (fun v h' => v = none ∧ rt_U 1 τ h' ∧ (∀ a, a ≠ 1 → h' a = h a) ∧ ∀ j, j < 100 → h' 1 j = h 1 j) := by
  refine az_er 2 rfl ?_
  exact lp_askRules_1 hT hV (τ 1) 0 0 h (Nat.zero_le _) (by omega) rfl (fun r hr => absurd hr (Nat.not_lt_zero r)) (fun _ _ => rfl) (fun _ _ => rfl)
set_option maxRecDepth 100000 in
theorem ct_decide_1 {sc : az_S} {τ : Nat → Nat} {h : az_H} (hT : rt_T 1 τ h) (hV : rt_V τ) : az_E sc az_m_X6_decide 0 [.ref 1] [] h (fun v h' => v = none ∧ rt_D 1 τ h h') := by
  refine az_er 1 rfl ?_
  refine az_ecall rfl rfl rfl rfl (ct_askRules_1 hT hV) ?_
  rintro _ hh ⟨rfl, hU, hF, hF2⟩
  have hA : rt_F 1 h hh := ⟨fun a p _ => hF a p, fun j _ p => hF2 j p⟩
  refine az_er 1 rfl ?_
  refine az_ecall rfl rfl rfl rfl (ct_askSorts_1 (rt_T_F hT hA) hV hU) ?_
  rintro _ h2 ⟨rfl, hI, hp, hg⟩
  refine az_eret rfl rfl rfl ?_
  exact ⟨rfl, hA.tr hI.F, hp, hg⟩
set_option maxRecDepth 100000 in
theorem cx_goBy_1 {sc : az_S} {τ : Nat → Nat} {h : az_H} (hT : rt_T 1 τ h) (hV : rt_V τ) {Q : Option Value → az_H → Prop} (K : ∀ h2, rt_D 1 τ h h2 → rt_U 1 τ h2 → az_E sc az_m_X6_goBy 8 [.ref 1] [] h2 Q) : az_E sc az_m_X6_goBy 0 [.ref 1] [] h Q := by
  refine az_er 1 rfl ?_
  refine az_ecall rfl rfl rfl rfl (ct_askRules_1 hT hV) ?_
  rintro _ hh ⟨rfl, hU, hF, hF2⟩
  have hA : rt_F 1 h hh := ⟨fun a p _ => hF a p, fun j _ p => hF2 j p⟩
  refine az_er 1 rfl ?_
  refine az_ecall rfl rfl rfl rfl (ct_askSorts_1 (rt_T_F hT hA) hV hU) ?_
  rintro _ h2 ⟨rfl, hI, hp, hg⟩
  exact K h2 ⟨hA.tr hI.F, hp, hg⟩ (hU.I hI)
set_option maxRecDepth 100000 in
theorem lp_decide2_16 {sc : az_S} {τ : Nat → Nat} {h : az_H} (hT : rt_T 16 τ h) (hV : rt_V τ) (hU : rt_U 16 τ h) : ∀ (d i : Nat) (x : Int32) (hh : az_H), i ≤ τ 0 → τ 0 - i = d → x = nI i → rt_I 16 h hh → hh 16 8 = nI (sq_n2 τ i) → (∀ s, s < τ 0 → s < i ∨ τ (11 + 6 * s) ≠ 5 → hh 30 s = sq_b (sq_go τ s)) → az_E sc az_m_X6_askSorts 51 [.ref 16, .int x] [] hh (fun v h' => v = none ∧ rt_DI 16 τ h h') := by
  have e0 : h 17 6 = nI (τ 0) := hT.1.2.2.2.1
  have b0 : τ 0 ≤ 4 := hV.1
  have b1 : τ 1 ≤ 6 := hV.2.1
  have b2 : τ 2 ≤ 60 := hV.2.2.1
  have b4 : τ 4 ≤ 8 := hV.2.2.2.1
  intro d
  induction d with
  | zero =>
    intro i x hh hi hd hx hF hp hg
    have he : i = τ 0 := by omega
    have hT2 := rt_T_F hT hF.F
    have hU2 := hU.I hF
    have e0 : hh 17 6 = nI (τ 0) := hT2.1.2.2.2.1
    have e2 : hh 16 3 = nI (τ 2) := hT2.1.1
    refine az_er 4 rfl ?_
    refine az_ic_ge rfl rfl (fun c59 => ?_) (fun c59 => absurd (by rw [e0, hx, he]; exact nI_le (Nat.le_refl _) (by omega)) c59)
    refine az_eret rfl rfl rfl ?_
    exact ⟨rfl, hF, by rw [hp, he]; rfl, fun s hs => hg s hs (Or.inl (by omega))⟩
  | succ d ih =>
    intro i x hh hi hd hx hF hp hg
    have hlt : i < τ 0 := by omega
    have hk := (hV.2.2.2.2.2.1 i (by omega)).2.1
    have hm9 := (hV.2.2.2.2.2.1 i (by omega)).1
    have hn9 := sq_n2_le hV i (by omega)
    have hT2 := rt_T_F hT hF.F
    have hU2 := hU.I hF
    have e0 : hh 17 6 = nI (τ 0) := hT2.1.2.2.2.1
    have e2 : hh 16 3 = nI (τ 2) := hT2.1.1
    refine az_er 4 rfl ?_
    refine az_ic_ge rfl rfl (fun c59 => absurd c59 (by rw [e0, hx]; exact nI_ge hlt (by omega))) (fun c59 => ?_)
    refine az_er 4 rfl ?_
    refine az_ecallF rfl rfl rfl rfl (ct_atI (v := nI (τ (11 + 6 * i))) rfl hx (by omega) (by decide) (hT2.2.1 i (by omega)).2.1) ?_
    refine az_er 1 rfl ?_
    refine az_ic_ne rfl rfl (fun c74 => ?_) (fun c74 => ?_)
    · refine az_er 2 rfl ?_
      have hk5 : τ (11 + 6 * i) ≠ 5 := fun q => c74 (by rw [q]; rfl)
      refine ih (i + 1) _ hh (by omega) (by omega) (by rw [hx]; exact nI_1' i) hF (by rw [hp, sq_n2, if_neg hk5]) (fun s hs hs2 => hg s hs ?_)
      rcases hs2 with hs2 | hs2
      · rcases (show s < i ∨ s = i by omega) with h9 | rfl
        · exact Or.inl h9
        · exact Or.inr hk5
      · exact Or.inr hs2
    · refine az_er 8 rfl ?_
      refine az_ecallF rfl rfl rfl rfl (ct_atI (v := nI (τ (10 + 6 * i))) rfl hx (by omega) (by decide) (hT2.2.1 i (by omega)).1) ?_
      refine az_er 3 rfl ?_
      rw [hp, e2]
      refine az_ic_gt rfl rfl (fun c99 => ?_) (fun c99 => ?_)
      · refine az_er 1 rfl ?_
        refine az_ecallF rfl rfl rfl rfl (ct_settle_16 (g := false) hT2 hV (by omega) hx) ?_
        refine az_er 2 rfl ?_
        have hk5 : τ (11 + 6 * i) = 5 := (nI_eq (by omega) (by omega)).mp (show nI (τ (11 + 6 * i)) = nI 5 from c74)
        have hle : ¬ nI (sq_n2 τ i + τ (10 + 6 * i)) ≤ nI (τ 2) := by rw [← nI_add]; exact Int32.not_le.mpr c99
        have hgo : sq_go τ i = false := by rw [sq_go, if_pos hk5]; exact decide_eq_false hle
        refine ih (i + 1) _ _ (by omega) (by omega) (by rw [hx]; exact nI_1' i) (hF.tr ⟨fun a p q => by rw [cond_false, az_up_o q], fun j hj => by rw [cond_false, az_up_o (by decide)]⟩) (by rw [cond_false, az_up_o (by decide), hp, sq_n2, if_pos hk5, if_neg hle]) (fun s hs hs2 => ?_)
        rw [cond_false]
        by_cases h9 : s = i
        · subst h9
          rw [az_up_s, hgo]
          rfl
        · rw [az_up_n h9]
          exact hg s hs (by rcases hs2 with q | q; exact Or.inl (by omega); exact Or.inr q)
      · refine az_er 2 rfl ?_
        refine az_ecallF rfl rfl rfl rfl (ct_settle_16 (g := true) hT2 hV (by omega) hx) ?_
        refine az_er 2 rfl ?_
        have hk5 : τ (11 + 6 * i) = 5 := (nI_eq (by omega) (by omega)).mp (show nI (τ (11 + 6 * i)) = nI 5 from c74)
        have hle : nI (sq_n2 τ i + τ (10 + 6 * i)) ≤ nI (τ 2) := by rw [← nI_add]; exact Int32.not_lt.mp c99
        have hgo : sq_go τ i = true := by rw [sq_go, if_pos hk5]; exact decide_eq_true hle
        refine ih (i + 1) _ _ (by omega) (by omega) (by rw [hx]; exact nI_1' i) (hF.tr ⟨fun a p q => by rw [cond_true, az_up_o p, az_up_o q], fun j hj => by rw [cond_true, az_up_n hj, az_up_o (by decide)]⟩) (by rw [cond_true, az_up_s, az_up_o (by decide), hp, nI_add, sq_n2, if_pos hk5, if_pos hle]) (fun s hs hs2 => ?_)
        rw [cond_true, az_up_o (by decide)]
        by_cases h9 : s = i
        · subst h9
          rw [az_up_s, hgo]
          rfl
        · rw [az_up_n h9]
          exact hg s hs (by rcases hs2 with q | q; exact Or.inl (by omega); exact Or.inr q)
set_option maxRecDepth 100000 in
theorem lp_decide1_16 {sc : az_S} {τ : Nat → Nat} {h : az_H} (hT : rt_T 16 τ h) (hV : rt_V τ) (hU : rt_U 16 τ h) : ∀ (d i : Nat) (x : Int32) (hh : az_H), i ≤ τ 0 → τ 0 - i = d → x = nI i → rt_I 16 h hh → hh 16 8 = nI (sq_n1 τ i) → (∀ s, s < i → τ (11 + 6 * s) ≠ 5 → hh 30 s = sq_b (sq_go τ s)) → az_E sc az_m_X6_askSorts 7 [.ref 16, .int x] [] hh (fun v h' => v = none ∧ rt_DI 16 τ h h') := by
  have e0 : h 17 6 = nI (τ 0) := hT.1.2.2.2.1
  have b0 : τ 0 ≤ 4 := hV.1
  have b1 : τ 1 ≤ 6 := hV.2.1
  have b2 : τ 2 ≤ 60 := hV.2.2.1
  have b4 : τ 4 ≤ 8 := hV.2.2.2.1
  intro d
  induction d with
  | zero =>
    intro i x hh hi hd hx hF hp hg
    have he : i = τ 0 := by omega
    have hT2 := rt_T_F hT hF.F
    have hU2 := hU.I hF
    have e0 : hh 17 6 = nI (τ 0) := hT2.1.2.2.2.1
    have e2 : hh 16 3 = nI (τ 2) := hT2.1.1
    refine az_er 4 rfl ?_
    refine az_ic_ge rfl rfl (fun c15 => ?_) (fun c15 => absurd (by rw [e0, hx, he]; exact nI_le (Nat.le_refl _) (by omega)) c15)
    refine az_er 2 rfl ?_
    exact lp_decide2_16 hT hV hU (τ 0) 0 0 hh (Nat.zero_le _) (by omega) rfl hF (by rw [hp, he]; rfl) (fun s hs hs2 => hg s (by omega) (by rcases hs2 with q | q; omega; exact q))
  | succ d ih =>
    intro i x hh hi hd hx hF hp hg
    have hlt : i < τ 0 := by omega
    have hk := (hV.2.2.2.2.2.1 i (by omega)).2.1
    have hT2 := rt_T_F hT hF.F
    have hU2 := hU.I hF
    have e0 : hh 17 6 = nI (τ 0) := hT2.1.2.2.2.1
    have e2 : hh 16 3 = nI (τ 2) := hT2.1.1
    refine az_er 4 rfl ?_
    refine az_ic_ge rfl rfl (fun c15 => absurd c15 (by rw [e0, hx]; exact nI_ge hlt (by omega))) (fun c15 => ?_)
    refine az_er 4 rfl ?_
    refine az_ecallF rfl rfl rfl rfl (ct_atI (v := nI (τ (11 + 6 * i))) rfl hx (by omega) (by decide) (hT2.2.1 i (by omega)).2.1) ?_
    refine az_er 1 rfl ?_
    refine az_ic_eq rfl rfl (fun c30 => ?_) (fun c30 => ?_)
    · refine az_er 2 rfl ?_
      have hk5 : τ (11 + 6 * i) = 5 := (nI_eq (by omega) (by omega)).mp (show nI (τ (11 + 6 * i)) = nI 5 from c30)
      refine ih (i + 1) _ hh (by omega) (by omega) (by rw [hx]; exact nI_1' i) hF (by rw [hp, sq_n1, sq_gs5 hk5]; rfl) (fun s hs hs2 => ?_)
      rcases (show s < i ∨ s = i by omega) with h9 | rfl
      · exact hg s h9 hs2
      · exact absurd hk5 hs2
    · refine az_er 4 rfl ?_
      refine az_ecallF rfl rfl rfl rfl (ct_wants_16 hT2 hV hU2 hlt hx) ?_
      refine az_ecallF rfl rfl rfl rfl (ct_settle_16 hT2 hV (by omega) hx) ?_
      refine az_er 2 rfl ?_
      have hk5 : τ (11 + 6 * i) ≠ 5 := fun q => c30 (by rw [q]; rfl)
      have hgo : sq_go τ i = sq_gs τ i := by rw [sq_go, if_neg hk5]
      cases hgs : sq_gs τ i
      · refine ih (i + 1) _ _ (by omega) (by omega) (by rw [hx]; exact nI_1' i) (hF.tr ⟨fun a p q => by rw [cond_false, az_up_o q], fun j hj => by rw [cond_false, az_up_o (by decide)]⟩) (by rw [cond_false, az_up_o (by decide), hp, sq_n1, hgs]; rfl) (fun s hs hs2 => ?_)
        rw [cond_false]
        by_cases h9 : s = i
        · subst h9
          rw [az_up_s, hgo, hgs]
          rfl
        · rw [az_up_n h9]
          exact hg s (by omega) hs2
      · refine ih (i + 1) _ _ (by omega) (by omega) (by rw [hx]; exact nI_1' i) (hF.tr ⟨fun a p q => by rw [cond_true, az_up_o p, az_up_o q], fun j hj => by rw [cond_true, az_up_n hj, az_up_o (by decide)]⟩) (by rw [cond_true, az_up_s, az_up_o (by decide), hp, nI_add, sq_n1, hgs]; rfl) (fun s hs hs2 => ?_)
        rw [cond_true, az_up_o (by decide)]
        by_cases h9 : s = i
        · subst h9
          rw [az_up_s, hgo, hgs]
          rfl
        · rw [az_up_n h9]
          exact hg s (by omega) hs2
set_option maxRecDepth 100000 in
theorem ct_askSorts_16 {sc : az_S} {τ : Nat → Nat} {h : az_H} (hT : rt_T 16 τ h) (hV : rt_V τ) (hU : rt_U 16 τ h) : az_E sc az_m_X6_askSorts 0 [.ref 16] [] h (fun v h' => v = none ∧ rt_DI 16 τ h h') := by
  refine az_er 5 rfl ?_
  exact lp_decide1_16 hT hV hU (τ 0) 0 0 _ (Nat.zero_le _) (by omega) rfl ⟨fun a p q => az_up_o p, fun j hj => az_up_n hj⟩ az_up_s (fun s hs => absurd hs (Nat.not_lt_zero s))
set_option maxRecDepth 100000 in
theorem lp_askRules_16 {sc : az_S} {τ : Nat → Nat} {h : az_H} (hT : rt_T 16 τ h) (hV : rt_V τ) : ∀ (d i : Nat) (x : Int32) (hh : az_H), i ≤ τ 1 → τ 1 - i = d → x = nI i → (∀ r, r < i → hh 16 (100 + r) = sq_fb τ r) → (∀ a, a ≠ 16 → hh a = h a) → (∀ j, j < 100 → hh 16 j = h 16 j) → az_E sc az_m_X6_askRules 2 [.ref 16, .int x] [] hh (fun v h' => v = none ∧ rt_U 16 τ h' ∧ (∀ a, a ≠ 16 → h' a = h a) ∧ ∀ j, j < 100 → h' 16 j = h 16 j) := by
  have b0 : τ 0 ≤ 4 := hV.1
  have b1 : τ 1 ≤ 6 := hV.2.1
  have b2 : τ 2 ≤ 60 := hV.2.2.1
  have b4 : τ 4 ≤ 8 := hV.2.2.2.1
  intro d
  induction d with
  | zero =>
    intro i x hh hi hd hx hu hF hF2
    have he : i = τ 1 := by omega
    have hT2 : rt_T 16 τ hh := rt_T_F hT ⟨fun a p _ => hF a p, fun j _ p => hF2 j p⟩
    have e1 : hh 24 3 = nI (τ 1) := hT2.1.2.2.2.2.1
    refine az_er 4 rfl ?_
    refine az_ic_ge rfl rfl (fun c10 => ?_) (fun c10 => absurd (by rw [e1, hx, he]; exact nI_le (Nat.le_refl _) (by omega)) c10)
    refine az_eret rfl rfl rfl ?_
    exact ⟨rfl, fun r hr => hu r (by omega), hF, hF2⟩
  | succ d ih =>
    intro i x hh hi hd hx hu hF hF2
    have hlt : i < τ 1 := by omega
    have hT2 : rt_T 16 τ hh := rt_T_F hT ⟨fun a p _ => hF a p, fun j _ p => hF2 j p⟩
    have e1 : hh 24 3 = nI (τ 1) := hT2.1.2.2.2.2.1
    refine az_er 4 rfl ?_
    refine az_ic_ge rfl rfl (fun c10 => absurd c10 (by rw [e1, hx]; exact nI_ge hlt (by omega))) (fun c10 => ?_)
    refine az_er 8 rfl ?_
    refine az_ecallF rfl rfl rfl rfl (ct_atI rfl hx (by omega) (by decide) (hT2.2.2.1 i (by omega)).1) ?_
    refine az_er 4 rfl ?_
    refine az_ecallF rfl rfl rfl rfl (ct_atI rfl hx (by omega) (by decide) (hT2.2.2.1 i (by omega)).2.1) ?_
    refine az_ecallF rfl rfl rfl rfl (ct_foretells_16 hT2 hV ⟨hV.2.2.2.2.2.2.2.2.1 i hlt, (hV.2.2.2.2.2.2.2.1 i (by omega)).2⟩ rfl (hV.2.2.2.2.2.2.2.1 i (by omega)).1) ?_
    refine az_ecallF rfl rfl rfl rfl (ct_putV rfl hx (by omega) (by decide)) ?_
    refine az_er 2 rfl ?_
    refine ih (i + 1) _ _ (by omega) (by omega) (by rw [hx]; exact nI_1' i) (fun r hr => ?_) (fun a ha => (az_up_o ha).trans (hF a ha)) (fun j hj => (az_up_at (Or.inr (show j ≠ 100 + i by omega))).trans (hF2 j hj))
    show az_up hh 16 (100 + i) _ 16 (100 + r) = _
    by_cases h9 : r = i
    · subst h9
      rw [az_up_s]
      rfl
    · rw [az_up_n (by omega)]
      exact hu r (by omega)
set_option maxRecDepth 100000 in
theorem ct_askRules_16 {sc : az_S} {τ : Nat → Nat} {h : az_H} (hT : rt_T 16 τ h) (hV : rt_V τ) : az_E sc az_m_X6_askRules 0 [.ref 16] [] h (fun v h' => v = none ∧ rt_U 16 τ h' ∧ (∀ a, a ≠ 16 → h' a = h a) ∧ ∀ j, j < 100 → h' 16 j = h 16 j) := by
  refine az_er 2 rfl ?_
  exact lp_askRules_16 hT hV (τ 1) 0 0 h (Nat.zero_le _) (by omega) rfl (fun r hr => absurd hr (Nat.not_lt_zero r)) (fun _ _ => rfl) (fun _ _ => rfl)
set_option maxRecDepth 100000 in
theorem ct_decide_16 {sc : az_S} {τ : Nat → Nat} {h : az_H} (hT : rt_T 16 τ h) (hV : rt_V τ) : az_E sc az_m_X6_decide 0 [.ref 16] [] h (fun v h' => v = none ∧ rt_D 16 τ h h') := by
  refine az_er 1 rfl ?_
  refine az_ecall rfl rfl rfl rfl (ct_askRules_16 hT hV) ?_
  rintro _ hh ⟨rfl, hU, hF, hF2⟩
  have hA : rt_F 16 h hh := ⟨fun a p _ => hF a p, fun j _ p => hF2 j p⟩
  refine az_er 1 rfl ?_
  refine az_ecall rfl rfl rfl rfl (ct_askSorts_16 (rt_T_F hT hA) hV hU) ?_
  rintro _ h2 ⟨rfl, hI, hp, hg⟩
  refine az_eret rfl rfl rfl ?_
  exact ⟨rfl, hA.tr hI.F, hp, hg⟩
set_option maxRecDepth 100000 in
theorem cx_goBy_16 {sc : az_S} {τ : Nat → Nat} {h : az_H} (hT : rt_T 16 τ h) (hV : rt_V τ) {Q : Option Value → az_H → Prop} (K : ∀ h2, rt_D 16 τ h h2 → rt_U 16 τ h2 → az_E sc az_m_X6_goBy 8 [.ref 16] [] h2 Q) : az_E sc az_m_X6_goBy 0 [.ref 16] [] h Q := by
  refine az_er 1 rfl ?_
  refine az_ecall rfl rfl rfl rfl (ct_askRules_16 hT hV) ?_
  rintro _ hh ⟨rfl, hU, hF, hF2⟩
  have hA : rt_F 16 h hh := ⟨fun a p _ => hF a p, fun j _ p => hF2 j p⟩
  refine az_er 1 rfl ?_
  refine az_ecall rfl rfl rfl rfl (ct_askSorts_16 (rt_T_F hT hA) hV hU) ?_
  rintro _ h2 ⟨rfl, hI, hp, hg⟩
  exact K h2 ⟨hA.tr hI.F, hp, hg⟩ (hU.I hI)
end
section
/-! what a Town's cells are behind a write -/
theorem rt_T_cong {b : Nat} {τ τ2 : Nat → Nat} {h : az_H} (hT : rt_T b τ h) (e : ∀ j, j < 70 → τ2 j = τ j) : rt_T b τ2 h := by
  obtain ⟨⟨t1, t2, t3, t4, t5, t6⟩, ts, tr, tw⟩ := hT
  refine ⟨⟨by rw [e _ (by omega)]; exact t1, by rw [e _ (by omega)]; exact t2, by rw [e _ (by omega)]; exact t3, by rw [e _ (by omega)]; exact t4, by rw [e _ (by omega)]; exact t5, by rw [e _ (by omega)]; exact t6⟩, fun i hi => ?_, fun i hi => ?_, fun i hi => ?_⟩
  · rw [e _ (by omega), e _ (by omega), e _ (by omega), e _ (by omega), e _ (by omega), e _ (by omega)]; exact ts i hi
  · rw [e _ (by omega), e _ (by omega), e _ (by omega)]; exact tr i hi
  · rw [e _ (by omega)]; exact tw i hi
theorem rt_T_h {b : Nat} {τ : Nat → Nat} {h h' : az_H} (hT : rt_T b τ h) (e : ∀ k, k ≤ 13 → h' (b + k) = h (b + k)) : rt_T b τ h' := by
  obtain ⟨⟨t1, t2, t3, t4, t5, t6⟩, ts, tr, tw⟩ := hT
  have e0 : h' b = h b := e 0 (by omega)
  refine ⟨⟨by rw [e0]; exact t1, by rw [e0]; exact t2, by rw [e0]; exact t3, by rw [e 1 (by omega)]; exact t4, by rw [e 8 (by omega)]; exact t5, by rw [e 12 (by omega)]; exact t6⟩, fun i hi => ?_, fun i hi => ?_, fun i hi => ?_⟩
  · rw [e 2 (by omega), e 3 (by omega), e 4 (by omega), e 5 (by omega), e 6 (by omega), e 7 (by omega)]; exact ts i hi
  · rw [e 9 (by omega), e 10 (by omega), e 11 (by omega)]; exact tr i hi
  · rw [e 13 (by omega)]; exact tw i hi
theorem rt_T_right {b i : Nat} {τ τ2 : Nat → Nat} {h : az_H} {v : Int32} (hT : rt_T b τ h) (hi : i < 6) (e : ∀ j, j ≠ 42 + 3 * i → τ2 j = τ j) (hv : v = nI (τ2 (42 + 3 * i))) : rt_T b τ2 (az_up h (b + 11) i v) := by
  obtain ⟨⟨t1, t2, t3, t4, t5, t6⟩, ts, tr, tw⟩ := hT
  have o9 : ∀ k, k ≠ 11 → az_up h (b + 11) i v (b + k) = h (b + k) := fun k hk => az_up_o (by omega)
  have o0 : az_up h (b + 11) i v b = h b := az_up_o (by omega)
  refine ⟨⟨by rw [o0, e _ (by omega)]; exact t1, by rw [o0, e _ (by omega)]; exact t2, by rw [o0, e _ (by omega)]; exact t3, by rw [o9 1 (by omega), e _ (by omega)]; exact t4, by rw [o9 8 (by omega), e _ (by omega)]; exact t5, by rw [o9 12 (by omega), e _ (by omega)]; exact t6⟩, fun s hs => ?_, fun r hr => ?_, fun w hw => ?_⟩
  · rw [o9 2 (by omega), o9 3 (by omega), o9 4 (by omega), o9 5 (by omega), o9 6 (by omega), o9 7 (by omega), e _ (by omega), e _ (by omega), e _ (by omega), e _ (by omega), e _ (by omega), e _ (by omega)]; exact ts s hs
  · rw [o9 9 (by omega), o9 10 (by omega), e (40 + 3 * r) (by omega), e (41 + 3 * r) (by omega)]
    refine ⟨(tr r hr).1, (tr r hr).2.1, ?_⟩
    by_cases h9 : r = i
    · subst h9
      rw [az_up_s, hv]
    · rw [az_up_n h9, e _ (by omega)]
      exact (tr r hr).2.2
  · rw [o9 13 (by omega), e _ (by omega)]; exact tw w hw
theorem az_sh_o {h : az_H} {k k' i : Nat} (hk : k' ≠ k) : az_sh h k i k' = h k' := by simp [az_sh, hk]
theorem rt_T_mem {b p : Nat} {τ : Nat → Nat} {h : az_H} (hT : rt_T b τ h) : rt_T b (sq_mem τ p) (az_up (az_up (az_sh h (b + 13) 0) (b + 13) 0 (nI p)) (b + 12) 1 (nI (min (τ 4 + 1) 8))) := by
  obtain ⟨⟨t1, t2, t3, t4, t5, t6⟩, ts, tr, tw⟩ := hT
  have o9 : ∀ k, k < 12 → az_up (az_up (az_sh h (b + 13) 0) (b + 13) 0 (nI p)) (b + 12) 1 (nI (min (τ 4 + 1) 8)) (b + k) = h (b + k) := fun k hk => by
    rw [az_up_o (by omega), az_up_o (by omega), az_sh_o (by omega)]
  have o0 : az_up (az_up (az_sh h (b + 13) 0) (b + 13) 0 (nI p)) (b + 12) 1 (nI (min (τ 4 + 1) 8)) b = h b := by
    rw [az_up_o (by omega), az_up_o (by omega), az_sh_o (by omega)]
  have e : ∀ j, j ≠ 4 → j < 60 → sq_mem τ p j = τ j := fun j h1 h2 => by rw [sq_mem, if_neg h1, if_neg (by omega), if_neg (by omega)]
  refine ⟨⟨by rw [o0, e _ (by omega) (by omega)]; exact t1, by rw [o0, e _ (by omega) (by omega)]; exact t2, by rw [o0, e _ (by omega) (by omega)]; exact t3, by rw [o9 1 (by omega), e _ (by omega) (by omega)]; exact t4, by rw [o9 8 (by omega), e _ (by omega) (by omega)]; exact t5, by rw [az_up_s, sq_mem, if_pos rfl]⟩, fun s hs => ?_, fun r hr => ?_, fun w hw => ?_⟩
  · rw [o9 2 (by omega), o9 3 (by omega), o9 4 (by omega), o9 5 (by omega), o9 6 (by omega), o9 7 (by omega), e _ (by omega) (by omega), e _ (by omega) (by omega), e _ (by omega) (by omega), e _ (by omega) (by omega), e _ (by omega) (by omega), e _ (by omega) (by omega)]; exact ts s hs
  · rw [o9 9 (by omega), o9 10 (by omega), o9 11 (by omega), e _ (by omega) (by omega), e _ (by omega) (by omega), e _ (by omega) (by omega)]; exact tr r hr
  · rw [az_up_o (by omega)]
    by_cases h9 : w = 0
    · subst h9
      rw [az_up_s, sq_mem, if_neg (by omega), if_pos rfl]
    · rw [az_up_n h9, sq_mem, if_neg (by omega), if_neg (by omega), if_pos (by omega)]
      have h1 := tw (w - 1) (by omega)
      simp only [az_sh, if_true]
      rw [if_pos (by omega), h1, show 60 + w - 1 = 60 + (w - 1) by omega]
theorem rt_T_num {b : Nat} {τ τ2 : Nat → Nat} {h : az_H} {v : Int32} (hT : rt_T b τ h) (e : ∀ j, j ≠ 3 → τ2 j = τ j) (hv : v = nI (τ2 3)) : rt_T b τ2 (az_up h b 5 v) := by
  obtain ⟨⟨t1, t2, t3, t4, t5, t6⟩, ts, tr, tw⟩ := hT
  have o9 : ∀ k, k ≠ 0 → az_up h b 5 v (b + k) = h (b + k) := fun k hk => az_up_o (by omega)
  refine ⟨⟨by rw [az_up_n (by omega), e _ (by omega)]; exact t1, by rw [az_up_n (by omega), e _ (by omega)]; exact t2, by rw [az_up_s, hv], by rw [o9 1 (by omega), e _ (by omega)]; exact t4, by rw [o9 8 (by omega), e _ (by omega)]; exact t5, by rw [o9 12 (by omega), e _ (by omega)]; exact t6⟩, fun s hs => ?_, fun r hr => ?_, fun w hw => ?_⟩
  · rw [o9 2 (by omega), o9 3 (by omega), o9 4 (by omega), o9 5 (by omega), o9 6 (by omega), o9 7 (by omega), e _ (by omega), e _ (by omega), e _ (by omega), e _ (by omega), e _ (by omega), e _ (by omega)]; exact ts s hs
  · rw [o9 9 (by omega), o9 10 (by omega), o9 11 (by omega), e _ (by omega), e _ (by omega), e _ (by omega)]; exact tr r hr
  · rw [o9 13 (by omega), e _ (by omega)]; exact tw w hw
theorem nI_m8 {s : Nat} (hs : s ≤ 8) : (if (8 : Int32) < nI s + Int32.ofInt 1 then (8 : Int32) else nI s + Int32.ofInt 1) = nI (min (s + 1) 8) := by
  rw [nI_1', show (8 : Int32) = nI 8 from rfl]
  by_cases h : 8 < s + 1
  · rw [if_pos ((nI_ltI (by omega) (by omega)).mpr h), Nat.min_eq_right (by omega)]
  · rw [if_neg (fun q => h ((nI_ltI (by omega) (by omega)).mp q)), Nat.min_eq_left (by omega)]
/-- behind a week -/
def rt_G (b : Nat) (τ : Nat → Nat) (h h' : az_H) : Prop := rt_T b (sq_st τ) h' ∧ h' b 8 = nI (sq_pr τ) ∧ (∀ s, s < τ 0 → h' (b + 14) s = sq_b (sq_go τ s)) ∧ ∀ a, a < b ∨ b + 14 < a → h' a = h a
set_option maxRecDepth 100000 in
theorem lp_madd_1 {sc : az_S} {h : az_H} {s : Nat} {p : Int32} (h8 : s ≤ 8) (hs : h 13 1 = nI s) : ∀ (d : Nat) (x : Int32), d ≤ 7 → x = nI d → az_E sc az_m_X1_add 8 [.ref 13, .int p, .int x] [] (az_sh h 14 d) (fun v h' => v = none ∧ h' = az_up (az_up (az_sh h 14 0) 14 0 p) 13 1 (nI (min (s + 1) 8))) := by
  intro d
  induction d with
  | zero =>
    intro x hd hx
    refine az_er 1 rfl ?_
    refine az_if_le rfl rfl (fun c9 => ?_) (fun c9 => absurd (show (x : Int32) ≤ 0 by rw [hx]; exact Int32.le_refl _) c9)
    refine az_er 4 rfl ?_
    refine az_ecallF rfl rfl rfl rfl (ct_putI (j := 0) rfl rfl (by decide) (by decide)) ?_
    refine az_er 6 rfl ?_
    refine az_er 2 rfl ?_
    refine az_eret rfl rfl rfl ?_
    exact ⟨rfl, by rw [az_up_o (by decide), show az_sh h 14 0 13 1 = h 13 1 from rfl, hs, show Int8.toInt32 (Int8.ofInt 8) = (8 : Int32) from rfl, nI_m8 h8]⟩
  | succ d ih =>
    intro x hd hx
    refine az_er 1 rfl ?_
    refine az_if_le rfl rfl (fun c9 => absurd c9 (by rw [hx]; exact nI_nle (by omega) (by omega))) (fun c9 => ?_)
    refine az_er 8 rfl ?_
    refine az_ecallF rfl rfl rfl rfl (ct_atI (v := az_sh h 14 (d + 1) 14 d) rfl (show x - Int32.ofInt 1 = nI d by rw [hx]; exact nI_pred d) (by omega) (by decide) rfl) ?_
    refine az_ecallF rfl rfl rfl rfl (ct_putI rfl hx (by omega) (by decide)) ?_
    refine az_er 2 rfl ?_
    rw [az_sh_s (by omega)]
    exact ih _ (by omega) (by rw [hx]; exact pk_m1 d)
set_option maxRecDepth 100000 in
theorem ct_madd_1 {sc : az_S} {h : az_H} {s : Nat} {p : Int32} (h8 : s ≤ 8) (hs : h 13 1 = nI s) : az_F sc az_m_X1_add [.ref 13, .int p] h none (az_up (az_up (az_sh h 14 0) 14 0 p) 13 1 (nI (min (s + 1) 8))) := by
  refine az_F.of ?_
  refine az_er 6 rfl ?_
  have := lp_madd_1 (sc := sc) (p := p) h8 hs 7 7 (Nat.le_refl 7) rfl
  rw [az_sh_7] at this
  exact this
set_option maxRecDepth 100000 in
theorem rt_T_st_1 {τ : Nat → Nat} {hh : az_H} {v : Int32} (hV : rt_V τ) (hT2 : rt_T 1 (sq_rt τ (τ 1)) hh) (hv : v = nI (τ 3)) : rt_T 1 (sq_st τ) (az_up (az_up (az_up (az_sh hh 14 0) 14 0 (nI (sq_pr τ))) 13 1 (nI (min (τ 4 + 1) 8))) 1 5 (v + Int32.ofInt 1)) := by
  have h4t : sq_rt τ (τ 1) 4 = τ 4 := sq_rt_of (by omega) hV.2.1
  have h3t : sq_rt τ (τ 1) 3 = τ 3 := sq_rt_of (by omega) hV.2.1
  have := rt_T_mem (p := sq_pr τ) hT2
  rw [h4t] at this
  refine rt_T_num this (fun j hj => by rw [sq_st, if_neg hj]) ?_
  rw [sq_st, if_pos rfl, hv]
  exact nI_1' _
set_option maxRecDepth 100000 in
theorem lp_goBy_1 {sc : az_S} {τ : Nat → Nat} {h : az_H} (hT : rt_T 1 τ h) (hV : rt_V τ) : ∀ (d i : Nat) (x : Int32) (hh : az_H), i ≤ τ 1 → τ 1 - i = d → x = nI i → rt_T 1 (sq_rt τ i) hh → hh 1 8 = nI (sq_pr τ) → (∀ s, s < τ 0 → hh 15 s = sq_b (sq_go τ s)) → (∀ a, a < 1 ∨ 15 < a → hh a = h a) → rt_U 1 τ hh → az_E sc az_m_X6_goBy 10 [.ref 1, .int x] [] hh (fun v h' => v = some (.int (nI (sq_pr τ))) ∧ rt_G 1 τ h h') := by
  have b0 : τ 0 ≤ 4 := hV.1
  have b1 : τ 1 ≤ 6 := hV.2.1
  have b2 : τ 2 ≤ 60 := hV.2.2.1
  have b4 : τ 4 ≤ 8 := hV.2.2.2.1
  intro d
  induction d with
  | zero =>
    intro i x hh hi hd hx hT2 hp hg ha9 hU
    have he : i = τ 1 := by omega
    have h1t : sq_rt τ i 1 = τ 1 := sq_rt_of (by omega) (by omega)
    have e1 : hh 9 3 = nI (τ 1) := by rw [← h1t]; exact hT2.1.2.2.2.2.1
    refine az_er 4 rfl ?_
    refine az_ic_ge rfl rfl (fun c18 => ?_) (fun c18 => absurd (by rw [e1, hx, he]; exact nI_le (Nat.le_refl _) (by omega)) c18)
    refine az_er 4 rfl ?_
    rw [hp]
    refine az_ecallF rfl rfl rfl rfl (ct_madd_1 (s := τ 4) b4 (by rw [← show sq_rt τ i 4 = τ 4 from sq_rt_of (by omega) (by omega)]; exact hT2.1.2.2.2.2.2)) ?_
    refine az_er 8 rfl ?_
    refine az_eret rfl rfl rfl ?_
    exact ⟨by rw [az_up_n (by decide), az_up_o (by decide), az_up_o (by decide), show az_sh hh 14 0 1 8 = hh 1 8 from rfl, hp], rt_T_st_1 hV (he ▸ hT2) (by rw [az_up_o (by decide), az_up_o (by decide)]; exact hT2.1.2.2.1.trans (congrArg nI (sq_rt_of (by omega) (by omega)))), by rw [az_up_n (by decide), az_up_o (by decide), az_up_o (by decide)]; exact hp, fun s hs => by rw [az_up_o (by decide), az_up_o (by decide), az_up_o (by decide)]; exact hg s hs, fun a ha => by rw [az_up_o (by omega), az_up_o (by omega), az_up_o (by omega)]; exact (if_neg (by omega)).trans (ha9 a ha)⟩
  | succ d ih =>
    intro i x hh hi hd hx hT2 hp hg ha9 hU
    have hlt : i < τ 1 := by omega
    have h1t : sq_rt τ i 1 = τ 1 := sq_rt_of (by omega) (by omega)
    have e1 : hh 9 3 = nI (τ 1) := by rw [← h1t]; exact hT2.1.2.2.2.2.1
    refine az_er 4 rfl ?_
    refine az_ic_ge rfl rfl (fun c18 => absurd c18 (by rw [e1, hx]; exact nI_ge hlt (by omega))) (fun c18 => ?_)
    refine az_er 4 rfl ?_
    refine az_ecallF rfl rfl rfl rfl (ct_atV rfl hx (by omega) (by decide) (show hh 1 (100 + i) = sq_fb τ i from hU i hlt)) ?_
    refine az_ecallF rfl rfl rfl rfl (ct_isRight_1 hT2 (rt_V_rt hV (by omega)) hp) ?_
    rw [show sq_rt τ i 2 = τ 2 from sq_rt_of (by omega) (by omega)]
    refine az_if_eq rfl rfl (fun c33 => ?_) (fun c33 => ?_)
    · refine az_er 2 rfl ?_
      have hri : sq_ri τ i = false := by
        rw [sq_ri]
        refine decide_eq_false (fun q => ?_)
        rw [if_pos q] at c33
        exact absurd c33 (by decide)
      refine ih (i + 1) _ hh (by omega) (by omega) (by rw [hx]; exact nI_1' i) (rt_T_cong hT2 (fun j hj => ?_)) hp hg ha9 hU
      unfold sq_rt
      by_cases hc : 42 ≤ j ∧ j < 42 + 3 * i ∧ j % 3 = 0 ∧ sq_ri τ ((j - 42) / 3) = true
      · rw [if_pos hc, if_pos ⟨hc.1, by omega, hc.2.2⟩]
      · rw [if_neg hc, if_neg]
        rintro ⟨q1, q2, q3, q4⟩
        refine hc ⟨q1, ?_, q3, q4⟩
        rcases (show j < 42 + 3 * i ∨ j = 42 + 3 * i by omega) with q | rfl
        · exact q
        · rw [show (42 + 3 * i - 42) / 3 = i by omega, hri] at q4
          cases q4
    · refine az_er 8 rfl ?_
      refine az_ecallF rfl rfl rfl rfl (ct_atI rfl hx (by omega) (by decide) (hT2.2.2.1 i (by omega)).2.2) ?_
      refine az_er 2 rfl ?_
      refine az_ecallF rfl rfl rfl rfl (ct_putI rfl hx (by omega) (by decide)) ?_
      refine az_er 2 rfl ?_
      have hri : sq_ri τ i = true := by
        rw [sq_ri]
        refine decide_eq_true (Classical.byContradiction fun q => ?_)
        rw [if_neg q] at c33
        exact c33 rfl
      refine ih (i + 1) _ _ (by omega) (by omega) (by rw [hx]; exact nI_1' i) (rt_T_right hT2 (by omega) (fun j hj => ?_) ?_) (by rw [az_up_o (by decide)]; exact hp) (fun s hs => by rw [az_up_o (by decide)]; exact hg s hs) (fun a ha => by rw [az_up_o (by omega)]; exact ha9 a ha) (fun r hr => by rw [az_up_o (by decide)]; exact hU r hr)
      · unfold sq_rt
        by_cases hc : 42 ≤ j ∧ j < 42 + 3 * i ∧ j % 3 = 0 ∧ sq_ri τ ((j - 42) / 3) = true
        · rw [if_pos hc, if_pos ⟨hc.1, by omega, hc.2.2⟩]
        · rw [if_neg hc, if_neg (fun q => hc ⟨q.1, by omega, q.2.2⟩)]
      · rw [sq_rt_s, sq_rt_s, if_neg (fun q => Nat.lt_irrefl i q.1), if_pos ⟨by omega, hri⟩]
        exact nI_1' _
set_option maxRecDepth 100000 in
theorem ct_goBy_1 {sc : az_S} {τ : Nat → Nat} {h : az_H} (hT : rt_T 1 τ h) (hV : rt_V τ) : az_E sc az_m_X6_goBy 0 [.ref 1] [] h (fun v h' => v = some (.int (nI (sq_pr τ))) ∧ rt_G 1 τ h h') := by
  refine cx_goBy_1 hT hV (fun h2 hD hU => ?_)
  obtain ⟨hF, hp, hg⟩ := hD
  refine az_er 2 rfl ?_
  exact lp_goBy_1 hT hV (τ 1) 0 0 h2 (Nat.zero_le _) (by omega) rfl (rt_T_cong (rt_T_F hT hF) (fun j _ => by unfold sq_rt; rw [if_neg (by omega)])) hp hg (fun a ha => hF.1 a (by omega) (by omega)) hU
set_option maxRecDepth 100000 in
theorem ct_worthOne_1 {sc : az_S} {τ : Nat → Nat} {h : az_H} (hT : rt_T 1 τ h) {x : Int32} {j p : Nat} {g : Bool} (hj : j < 4) (hx : x = nI j) (hg : h 15 j = sq_b g) (hp : h 1 8 = nI p) : az_F sc az_m_X6_worthToOne [.ref 1, .int x] h (some (.int (sq_w τ g p j))) h := by
  have e2 : h 1 3 = nI (τ 2) := hT.1.1
  have e5 : h 1 4 = nI (τ 5) := hT.1.2.1
  refine az_F.of ?_
  cases g
  · refine az_er 3 rfl ?_
    refine az_ecallF rfl rfl rfl rfl (ct_atI rfl hx hj (by decide) hg) ?_
    refine az_if_ne rfl rfl (fun c8 => absurd rfl c8) (fun c8 => ?_)
    refine az_er 4 rfl ?_
    refine az_ecallF rfl rfl rfl rfl (ct_atI rfl hx hj (by decide) (hT.2.1 j hj).2.2.2.2.2) ?_
    refine az_eret rfl rfl rfl ?_
    exact ⟨rfl, rfl⟩
  · refine az_er 3 rfl ?_
    refine az_ecallF rfl rfl rfl rfl (ct_atI rfl hx hj (by decide) hg) ?_
    refine az_if_ne rfl rfl (fun c8 => ?_) (fun c8 => absurd c8 (show ¬ sq_b true = 0 by decide))
    refine az_er 4 rfl ?_
    rw [hp, e2]
    refine az_ic_gt rfl rfl (fun c31 => ?_) (fun c31 => ?_)
    · refine az_er 4 rfl ?_
      refine az_ecallF rfl rfl rfl rfl (ct_atI rfl hx hj (by decide) (hT.2.1 j hj).2.2.2.2.1) ?_
      refine az_er 3 rfl ?_
      refine az_eret rfl rfl rfl ?_
      exact ⟨by rw [e5, sq_w, if_pos rfl, sq_wg, if_neg (Int32.not_le.mpr c31)], rfl⟩
    · refine az_er 4 rfl ?_
      refine az_ecallF rfl rfl rfl rfl (ct_atI rfl hx hj (by decide) (hT.2.1 j hj).2.2.2.1) ?_
      refine az_er 4 rfl ?_
      refine az_eret rfl rfl rfl ?_
      exact ⟨by rw [e5, sq_w, if_pos rfl, sq_wg, if_pos (Int32.not_lt.mp c31)], rfl⟩
set_option maxRecDepth 100000 in
theorem lp_madd_16 {sc : az_S} {h : az_H} {s : Nat} {p : Int32} (h8 : s ≤ 8) (hs : h 28 1 = nI s) : ∀ (d : Nat) (x : Int32), d ≤ 7 → x = nI d → az_E sc az_m_X1_add 8 [.ref 28, .int p, .int x] [] (az_sh h 29 d) (fun v h' => v = none ∧ h' = az_up (az_up (az_sh h 29 0) 29 0 p) 28 1 (nI (min (s + 1) 8))) := by
  intro d
  induction d with
  | zero =>
    intro x hd hx
    refine az_er 1 rfl ?_
    refine az_if_le rfl rfl (fun c9 => ?_) (fun c9 => absurd (show (x : Int32) ≤ 0 by rw [hx]; exact Int32.le_refl _) c9)
    refine az_er 4 rfl ?_
    refine az_ecallF rfl rfl rfl rfl (ct_putI (j := 0) rfl rfl (by decide) (by decide)) ?_
    refine az_er 6 rfl ?_
    refine az_er 2 rfl ?_
    refine az_eret rfl rfl rfl ?_
    exact ⟨rfl, by rw [az_up_o (by decide), show az_sh h 29 0 28 1 = h 28 1 from rfl, hs, show Int8.toInt32 (Int8.ofInt 8) = (8 : Int32) from rfl, nI_m8 h8]⟩
  | succ d ih =>
    intro x hd hx
    refine az_er 1 rfl ?_
    refine az_if_le rfl rfl (fun c9 => absurd c9 (by rw [hx]; exact nI_nle (by omega) (by omega))) (fun c9 => ?_)
    refine az_er 8 rfl ?_
    refine az_ecallF rfl rfl rfl rfl (ct_atI (v := az_sh h 29 (d + 1) 29 d) rfl (show x - Int32.ofInt 1 = nI d by rw [hx]; exact nI_pred d) (by omega) (by decide) rfl) ?_
    refine az_ecallF rfl rfl rfl rfl (ct_putI rfl hx (by omega) (by decide)) ?_
    refine az_er 2 rfl ?_
    rw [az_sh_s (by omega)]
    exact ih _ (by omega) (by rw [hx]; exact pk_m1 d)
set_option maxRecDepth 100000 in
theorem ct_madd_16 {sc : az_S} {h : az_H} {s : Nat} {p : Int32} (h8 : s ≤ 8) (hs : h 28 1 = nI s) : az_F sc az_m_X1_add [.ref 28, .int p] h none (az_up (az_up (az_sh h 29 0) 29 0 p) 28 1 (nI (min (s + 1) 8))) := by
  refine az_F.of ?_
  refine az_er 6 rfl ?_
  have := lp_madd_16 (sc := sc) (p := p) h8 hs 7 7 (Nat.le_refl 7) rfl
  rw [az_sh_7] at this
  exact this
set_option maxRecDepth 100000 in
theorem rt_T_st_16 {τ : Nat → Nat} {hh : az_H} {v : Int32} (hV : rt_V τ) (hT2 : rt_T 16 (sq_rt τ (τ 1)) hh) (hv : v = nI (τ 3)) : rt_T 16 (sq_st τ) (az_up (az_up (az_up (az_sh hh 29 0) 29 0 (nI (sq_pr τ))) 28 1 (nI (min (τ 4 + 1) 8))) 16 5 (v + Int32.ofInt 1)) := by
  have h4t : sq_rt τ (τ 1) 4 = τ 4 := sq_rt_of (by omega) hV.2.1
  have h3t : sq_rt τ (τ 1) 3 = τ 3 := sq_rt_of (by omega) hV.2.1
  have := rt_T_mem (p := sq_pr τ) hT2
  rw [h4t] at this
  refine rt_T_num this (fun j hj => by rw [sq_st, if_neg hj]) ?_
  rw [sq_st, if_pos rfl, hv]
  exact nI_1' _
set_option maxRecDepth 100000 in
theorem lp_goBy_16 {sc : az_S} {τ : Nat → Nat} {h : az_H} (hT : rt_T 16 τ h) (hV : rt_V τ) : ∀ (d i : Nat) (x : Int32) (hh : az_H), i ≤ τ 1 → τ 1 - i = d → x = nI i → rt_T 16 (sq_rt τ i) hh → hh 16 8 = nI (sq_pr τ) → (∀ s, s < τ 0 → hh 30 s = sq_b (sq_go τ s)) → (∀ a, a < 16 ∨ 30 < a → hh a = h a) → rt_U 16 τ hh → az_E sc az_m_X6_goBy 10 [.ref 16, .int x] [] hh (fun v h' => v = some (.int (nI (sq_pr τ))) ∧ rt_G 16 τ h h') := by
  have b0 : τ 0 ≤ 4 := hV.1
  have b1 : τ 1 ≤ 6 := hV.2.1
  have b2 : τ 2 ≤ 60 := hV.2.2.1
  have b4 : τ 4 ≤ 8 := hV.2.2.2.1
  intro d
  induction d with
  | zero =>
    intro i x hh hi hd hx hT2 hp hg ha9 hU
    have he : i = τ 1 := by omega
    have h1t : sq_rt τ i 1 = τ 1 := sq_rt_of (by omega) (by omega)
    have e1 : hh 24 3 = nI (τ 1) := by rw [← h1t]; exact hT2.1.2.2.2.2.1
    refine az_er 4 rfl ?_
    refine az_ic_ge rfl rfl (fun c18 => ?_) (fun c18 => absurd (by rw [e1, hx, he]; exact nI_le (Nat.le_refl _) (by omega)) c18)
    refine az_er 4 rfl ?_
    rw [hp]
    refine az_ecallF rfl rfl rfl rfl (ct_madd_16 (s := τ 4) b4 (by rw [← show sq_rt τ i 4 = τ 4 from sq_rt_of (by omega) (by omega)]; exact hT2.1.2.2.2.2.2)) ?_
    refine az_er 8 rfl ?_
    refine az_eret rfl rfl rfl ?_
    exact ⟨by rw [az_up_n (by decide), az_up_o (by decide), az_up_o (by decide), show az_sh hh 29 0 16 8 = hh 16 8 from rfl, hp], rt_T_st_16 hV (he ▸ hT2) (by rw [az_up_o (by decide), az_up_o (by decide)]; exact hT2.1.2.2.1.trans (congrArg nI (sq_rt_of (by omega) (by omega)))), by rw [az_up_n (by decide), az_up_o (by decide), az_up_o (by decide)]; exact hp, fun s hs => by rw [az_up_o (by decide), az_up_o (by decide), az_up_o (by decide)]; exact hg s hs, fun a ha => by rw [az_up_o (by omega), az_up_o (by omega), az_up_o (by omega)]; exact (if_neg (by omega)).trans (ha9 a ha)⟩
  | succ d ih =>
    intro i x hh hi hd hx hT2 hp hg ha9 hU
    have hlt : i < τ 1 := by omega
    have h1t : sq_rt τ i 1 = τ 1 := sq_rt_of (by omega) (by omega)
    have e1 : hh 24 3 = nI (τ 1) := by rw [← h1t]; exact hT2.1.2.2.2.2.1
    refine az_er 4 rfl ?_
    refine az_ic_ge rfl rfl (fun c18 => absurd c18 (by rw [e1, hx]; exact nI_ge hlt (by omega))) (fun c18 => ?_)
    refine az_er 4 rfl ?_
    refine az_ecallF rfl rfl rfl rfl (ct_atV rfl hx (by omega) (by decide) (show hh 16 (100 + i) = sq_fb τ i from hU i hlt)) ?_
    refine az_ecallF rfl rfl rfl rfl (ct_isRight_16 hT2 (rt_V_rt hV (by omega)) hp) ?_
    rw [show sq_rt τ i 2 = τ 2 from sq_rt_of (by omega) (by omega)]
    refine az_if_eq rfl rfl (fun c33 => ?_) (fun c33 => ?_)
    · refine az_er 2 rfl ?_
      have hri : sq_ri τ i = false := by
        rw [sq_ri]
        refine decide_eq_false (fun q => ?_)
        rw [if_pos q] at c33
        exact absurd c33 (by decide)
      refine ih (i + 1) _ hh (by omega) (by omega) (by rw [hx]; exact nI_1' i) (rt_T_cong hT2 (fun j hj => ?_)) hp hg ha9 hU
      unfold sq_rt
      by_cases hc : 42 ≤ j ∧ j < 42 + 3 * i ∧ j % 3 = 0 ∧ sq_ri τ ((j - 42) / 3) = true
      · rw [if_pos hc, if_pos ⟨hc.1, by omega, hc.2.2⟩]
      · rw [if_neg hc, if_neg]
        rintro ⟨q1, q2, q3, q4⟩
        refine hc ⟨q1, ?_, q3, q4⟩
        rcases (show j < 42 + 3 * i ∨ j = 42 + 3 * i by omega) with q | rfl
        · exact q
        · rw [show (42 + 3 * i - 42) / 3 = i by omega, hri] at q4
          cases q4
    · refine az_er 8 rfl ?_
      refine az_ecallF rfl rfl rfl rfl (ct_atI rfl hx (by omega) (by decide) (hT2.2.2.1 i (by omega)).2.2) ?_
      refine az_er 2 rfl ?_
      refine az_ecallF rfl rfl rfl rfl (ct_putI rfl hx (by omega) (by decide)) ?_
      refine az_er 2 rfl ?_
      have hri : sq_ri τ i = true := by
        rw [sq_ri]
        refine decide_eq_true (Classical.byContradiction fun q => ?_)
        rw [if_neg q] at c33
        exact c33 rfl
      refine ih (i + 1) _ _ (by omega) (by omega) (by rw [hx]; exact nI_1' i) (rt_T_right hT2 (by omega) (fun j hj => ?_) ?_) (by rw [az_up_o (by decide)]; exact hp) (fun s hs => by rw [az_up_o (by decide)]; exact hg s hs) (fun a ha => by rw [az_up_o (by omega)]; exact ha9 a ha) (fun r hr => by rw [az_up_o (by decide)]; exact hU r hr)
      · unfold sq_rt
        by_cases hc : 42 ≤ j ∧ j < 42 + 3 * i ∧ j % 3 = 0 ∧ sq_ri τ ((j - 42) / 3) = true
        · rw [if_pos hc, if_pos ⟨hc.1, by omega, hc.2.2⟩]
        · rw [if_neg hc, if_neg (fun q => hc ⟨q.1, by omega, q.2.2⟩)]
      · rw [sq_rt_s, sq_rt_s, if_neg (fun q => Nat.lt_irrefl i q.1), if_pos ⟨by omega, hri⟩]
        exact nI_1' _
set_option maxRecDepth 100000 in
theorem ct_goBy_16 {sc : az_S} {τ : Nat → Nat} {h : az_H} (hT : rt_T 16 τ h) (hV : rt_V τ) : az_E sc az_m_X6_goBy 0 [.ref 16] [] h (fun v h' => v = some (.int (nI (sq_pr τ))) ∧ rt_G 16 τ h h') := by
  refine cx_goBy_16 hT hV (fun h2 hD hU => ?_)
  obtain ⟨hF, hp, hg⟩ := hD
  refine az_er 2 rfl ?_
  exact lp_goBy_16 hT hV (τ 1) 0 0 h2 (Nat.zero_le _) (by omega) rfl (rt_T_cong (rt_T_F hT hF) (fun j _ => by unfold sq_rt; rw [if_neg (by omega)])) hp hg (fun a ha => hF.1 a (by omega) (by omega)) hU
set_option maxRecDepth 100000 in
theorem ct_worthOne_16 {sc : az_S} {τ : Nat → Nat} {h : az_H} (hT : rt_T 16 τ h) {x : Int32} {j p : Nat} {g : Bool} (hj : j < 4) (hx : x = nI j) (hg : h 30 j = sq_b g) (hp : h 16 8 = nI p) : az_F sc az_m_X6_worthToOne [.ref 16, .int x] h (some (.int (sq_w τ g p j))) h := by
  have e2 : h 16 3 = nI (τ 2) := hT.1.1
  have e5 : h 16 4 = nI (τ 5) := hT.1.2.1
  refine az_F.of ?_
  cases g
  · refine az_er 3 rfl ?_
    refine az_ecallF rfl rfl rfl rfl (ct_atI rfl hx hj (by decide) hg) ?_
    refine az_if_ne rfl rfl (fun c8 => absurd rfl c8) (fun c8 => ?_)
    refine az_er 4 rfl ?_
    refine az_ecallF rfl rfl rfl rfl (ct_atI rfl hx hj (by decide) (hT.2.1 j hj).2.2.2.2.2) ?_
    refine az_eret rfl rfl rfl ?_
    exact ⟨rfl, rfl⟩
  · refine az_er 3 rfl ?_
    refine az_ecallF rfl rfl rfl rfl (ct_atI rfl hx hj (by decide) hg) ?_
    refine az_if_ne rfl rfl (fun c8 => ?_) (fun c8 => absurd c8 (show ¬ sq_b true = 0 by decide))
    refine az_er 4 rfl ?_
    rw [hp, e2]
    refine az_ic_gt rfl rfl (fun c31 => ?_) (fun c31 => ?_)
    · refine az_er 4 rfl ?_
      refine az_ecallF rfl rfl rfl rfl (ct_atI rfl hx hj (by decide) (hT.2.1 j hj).2.2.2.2.1) ?_
      refine az_er 3 rfl ?_
      refine az_eret rfl rfl rfl ?_
      exact ⟨by rw [e5, sq_w, if_pos rfl, sq_wg, if_neg (Int32.not_le.mpr c31)], rfl⟩
    · refine az_er 4 rfl ?_
      refine az_ecallF rfl rfl rfl rfl (ct_atI rfl hx hj (by decide) (hT.2.1 j hj).2.2.2.1) ?_
      refine az_er 4 rfl ?_
      refine az_eret rfl rfl rfl ?_
      exact ⟨by rw [e5, sq_w, if_pos rfl, sq_wg, if_pos (Int32.not_lt.mp c31)], rfl⟩
set_option maxRecDepth 100000 in
theorem lp_worthAll {sc : az_S} {τ : Nat → Nat} {h : az_H} (hT : rt_T 1 τ h) (hV : rt_V τ) (hp : h 1 8 = nI (sq_pr τ)) (hg : ∀ s, s < τ 0 → h 15 s = sq_b (sq_go τ s)) : ∀ (d i : Nat) (x y : Int32), i ≤ τ 0 → τ 0 - i = d → x = sq_wa τ i → y = nI i → az_E sc az_m_X6_worthToAll 4 [.ref 1, .int x, .int y] [] h (fun v h' => v = some (.int (sq_wa τ (τ 0))) ∧ h' = h) := by
  have e0 : h 2 6 = nI (τ 0) := hT.1.2.2.2.1
  have b0 : τ 0 ≤ 4 := hV.1
  intro d
  induction d with
  | zero =>
    intro i x y hi hd hx hy
    have he : i = τ 0 := by omega
    refine az_er 4 rfl ?_
    refine az_ic_ge rfl rfl (fun c12 => ?_) (fun c12 => absurd (by rw [e0, hy, he]; exact nI_le (Nat.le_refl _) (by omega)) c12)
    refine az_er 1 rfl ?_
    refine az_eret rfl rfl rfl ?_
    exact ⟨by rw [hx, he], rfl⟩
  | succ d ih =>
    intro i x y hi hd hx hy
    have hlt : i < τ 0 := by omega
    refine az_er 4 rfl ?_
    refine az_ic_ge rfl rfl (fun c12 => absurd c12 (by rw [e0, hy]; exact nI_ge hlt (by omega))) (fun c12 => ?_)
    refine az_er 5 rfl ?_
    refine az_ecallF rfl rfl rfl rfl (ct_atI rfl hy (by omega) (by decide) (hT.2.1 i (by omega)).1) ?_
    refine az_er 2 rfl ?_
    refine az_ecallF rfl rfl rfl rfl (ct_worthOne_1 hT (by omega) hy (hg i hlt) hp) ?_
    refine az_er 5 rfl ?_
    exact ih (i + 1) _ _ (by omega) (by omega) (by rw [hx]; rfl) (by rw [hy]; exact nI_1' i)
set_option maxRecDepth 100000 in
theorem ct_worthAll {sc : az_S} {τ : Nat → Nat} {h : az_H} (hT : rt_T 1 τ h) (hV : rt_V τ) (hp : h 1 8 = nI (sq_pr τ)) (hg : ∀ s, s < τ 0 → h 15 s = sq_b (sq_go τ s)) : az_F sc az_m_X6_worthToAll [.ref 1] h (some (.int (sq_wa τ (τ 0)))) h := by
  refine az_F.of ?_
  refine az_er 4 rfl ?_
  exact lp_worthAll hT hV hp hg (τ 0) 0 0 0 (Nat.zero_le _) (by omega) rfl rfl
end
