-- ===== PART A: goes FIRST, ahead of the names: the tables' words, and 'selects' of the private methods out of them =====
/-- a private method of a class that the tables say can be made, by its rows of tables_1 -/
def lw_okq (q : MethodName × Nat) : Prop := (q.1.cls ≠ "java/lang/invoke/MethodHandle" ∧ q.1.cls ≠ "java/lang/invoke/VarHandle") ∧ Cond.instantiable q.1.cls q.2 ∈ tables_1 ∧ Cond.privateMethod q.1 ∈ tables_1 ∧ Cond.instanceMethod q.1 ∈ tables_1
theorem lw_p0 : lw_okq (⟨"GoodHalfEmpty", "refuse", "(I)I"⟩, 11) := ⟨⟨by decide +kernel, by decide +kernel⟩, List.mem_of_getElem? (i := 17) (by decide +kernel), List.mem_of_getElem? (i := 268) (by decide +kernel), List.mem_of_getElem? (i := 269) (by decide +kernel)⟩
theorem lw_p1 : lw_okq (⟨"GoodHalfEmpty$Text", "add", "(I)I"⟩, 2) := ⟨⟨by decide +kernel, by decide +kernel⟩, List.mem_of_getElem? (i := 160) (by decide +kernel), List.mem_of_getElem? (i := 278) (by decide +kernel), List.mem_of_getElem? (i := 279) (by decide +kernel)⟩
theorem lw_p2 : lw_okq (⟨"GoodHalfEmpty$Town", "copyFrom", "(LGoodHalfEmpty$Town;)V"⟩, 9) := ⟨⟨by decide +kernel, by decide +kernel⟩, List.mem_of_getElem? (i := 25) (by decide +kernel), List.mem_of_getElem? (i := 290) (by decide +kernel), List.mem_of_getElem? (i := 291) (by decide +kernel)⟩
theorem lw_p3 : lw_okq (⟨"GoodHalfEmpty$Sorts", "copyFrom", "(LGoodHalfEmpty$Sorts;)V"⟩, 7) := ⟨⟨by decide +kernel, by decide +kernel⟩, List.mem_of_getElem? (i := 31) (by decide +kernel), List.mem_of_getElem? (i := 294) (by decide +kernel), List.mem_of_getElem? (i := 295) (by decide +kernel)⟩
theorem lw_p4 : lw_okq (⟨"GoodHalfEmpty$Rules", "copyFrom", "(LGoodHalfEmpty$Rules;)V"⟩, 4) := ⟨⟨by decide +kernel, by decide +kernel⟩, List.mem_of_getElem? (i := 79) (by decide +kernel), List.mem_of_getElem? (i := 301) (by decide +kernel), List.mem_of_getElem? (i := 302) (by decide +kernel)⟩
theorem lw_p5 : lw_okq (⟨"GoodHalfEmpty$Memory", "copyFrom", "(LGoodHalfEmpty$Memory;)V"⟩, 2) := ⟨⟨by decide +kernel, by decide +kernel⟩, List.mem_of_getElem? (i := 106) (by decide +kernel), List.mem_of_getElem? (i := 306) (by decide +kernel), List.mem_of_getElem? (i := 307) (by decide +kernel)⟩
theorem lw_p6 : lw_okq (⟨"GoodHalfEmpty$Text", "tellTo", "(LGoodHalfEmpty$Town;)I"⟩, 2) := ⟨⟨by decide +kernel, by decide +kernel⟩, List.mem_of_getElem? (i := 160) (by decide +kernel), List.mem_of_getElem? (i := 311) (by decide +kernel), List.mem_of_getElem? (i := 312) (by decide +kernel)⟩
theorem lw_p7 : lw_okq (⟨"GoodHalfEmpty$Text", "badPlace", "()I"⟩, 2) := ⟨⟨by decide +kernel, by decide +kernel⟩, List.mem_of_getElem? (i := 160) (by decide +kernel), List.mem_of_getElem? (i := 315) (by decide +kernel), List.mem_of_getElem? (i := 316) (by decide +kernel)⟩
theorem lw_p8 : lw_okq (⟨"GoodHalfEmpty$Text", "formAt", "(I)Ljava/lang/String;"⟩, 2) := ⟨⟨by decide +kernel, by decide +kernel⟩, List.mem_of_getElem? (i := 160) (by decide +kernel), List.mem_of_getElem? (i := 319) (by decide +kernel), List.mem_of_getElem? (i := 320) (by decide +kernel)⟩
theorem lw_p9 : lw_okq (⟨"GoodHalfEmpty$Text", "letterAt", "(I)I"⟩, 2) := ⟨⟨by decide +kernel, by decide +kernel⟩, List.mem_of_getElem? (i := 160) (by decide +kernel), List.mem_of_getElem? (i := 323) (by decide +kernel), List.mem_of_getElem? (i := 324) (by decide +kernel)⟩
theorem lw_p10 : lw_okq (⟨"GoodHalfEmpty$Text", "numberForm", "(I)Ljava/lang/String;"⟩, 2) := ⟨⟨by decide +kernel, by decide +kernel⟩, List.mem_of_getElem? (i := 160) (by decide +kernel), List.mem_of_getElem? (i := 327) (by decide +kernel), List.mem_of_getElem? (i := 328) (by decide +kernel)⟩
theorem lw_p11 : lw_okq (⟨"GoodHalfEmpty$Text", "isDigit", "(I)Z"⟩, 2) := ⟨⟨by decide +kernel, by decide +kernel⟩, List.mem_of_getElem? (i := 160) (by decide +kernel), List.mem_of_getElem? (i := 331) (by decide +kernel), List.mem_of_getElem? (i := 332) (by decide +kernel)⟩
theorem lw_p12 : lw_okq (⟨"GoodHalfEmpty$Text", "fits", "(IC)Z"⟩, 2) := ⟨⟨by decide +kernel, by decide +kernel⟩, List.mem_of_getElem? (i := 160) (by decide +kernel), List.mem_of_getElem? (i := 392) (by decide +kernel), List.mem_of_getElem? (i := 393) (by decide +kernel)⟩
theorem lw_p13 : lw_okq (⟨"GoodHalfEmpty$Text", "kindAt", "(ILjava/lang/String;)I"⟩, 2) := ⟨⟨by decide +kernel, by decide +kernel⟩, List.mem_of_getElem? (i := 160) (by decide +kernel), List.mem_of_getElem? (i := 397) (by decide +kernel), List.mem_of_getElem? (i := 398) (by decide +kernel)⟩
theorem lw_p14 : lw_okq (⟨"GoodHalfEmpty$Text", "tellStatement", "(LGoodHalfEmpty$Town;I)Z"⟩, 2) := ⟨⟨by decide +kernel, by decide +kernel⟩, List.mem_of_getElem? (i := 160) (by decide +kernel), List.mem_of_getElem? (i := 459) (by decide +kernel), List.mem_of_getElem? (i := 460) (by decide +kernel)⟩
theorem lw_p15 : lw_okq (⟨"GoodHalfEmpty$Text", "numberAt", "(I)I"⟩, 2) := ⟨⟨by decide +kernel, by decide +kernel⟩, List.mem_of_getElem? (i := 160) (by decide +kernel), List.mem_of_getElem? (i := 463) (by decide +kernel), List.mem_of_getElem? (i := 464) (by decide +kernel)⟩
def lw_privs_1 : List (MethodName × Nat) := [(⟨"GoodHalfEmpty", "refuse", "(I)I"⟩, 11), (⟨"GoodHalfEmpty$Text", "add", "(I)I"⟩, 2), (⟨"GoodHalfEmpty$Town", "copyFrom", "(LGoodHalfEmpty$Town;)V"⟩, 9), (⟨"GoodHalfEmpty$Sorts", "copyFrom", "(LGoodHalfEmpty$Sorts;)V"⟩, 7), (⟨"GoodHalfEmpty$Rules", "copyFrom", "(LGoodHalfEmpty$Rules;)V"⟩, 4), (⟨"GoodHalfEmpty$Memory", "copyFrom", "(LGoodHalfEmpty$Memory;)V"⟩, 2), (⟨"GoodHalfEmpty$Text", "tellTo", "(LGoodHalfEmpty$Town;)I"⟩, 2), (⟨"GoodHalfEmpty$Text", "badPlace", "()I"⟩, 2), (⟨"GoodHalfEmpty$Text", "formAt", "(I)Ljava/lang/String;"⟩, 2), (⟨"GoodHalfEmpty$Text", "letterAt", "(I)I"⟩, 2), (⟨"GoodHalfEmpty$Text", "numberForm", "(I)Ljava/lang/String;"⟩, 2), (⟨"GoodHalfEmpty$Text", "isDigit", "(I)Z"⟩, 2), (⟨"GoodHalfEmpty$Text", "fits", "(IC)Z"⟩, 2), (⟨"GoodHalfEmpty$Text", "kindAt", "(ILjava/lang/String;)I"⟩, 2), (⟨"GoodHalfEmpty$Text", "tellStatement", "(LGoodHalfEmpty$Town;I)Z"⟩, 2), (⟨"GoodHalfEmpty$Text", "numberAt", "(I)I"⟩, 2)]
theorem lw_r1 : ∀ q ∈ lw_privs_1, lw_okq q := List.forall_mem_cons.mpr ⟨lw_p0, List.forall_mem_cons.mpr ⟨lw_p1, List.forall_mem_cons.mpr ⟨lw_p2, List.forall_mem_cons.mpr ⟨lw_p3, List.forall_mem_cons.mpr ⟨lw_p4, List.forall_mem_cons.mpr ⟨lw_p5, List.forall_mem_cons.mpr ⟨lw_p6, List.forall_mem_cons.mpr ⟨lw_p7, List.forall_mem_cons.mpr ⟨lw_p8, List.forall_mem_cons.mpr ⟨lw_p9, List.forall_mem_cons.mpr ⟨lw_p10, List.forall_mem_cons.mpr ⟨lw_p11, List.forall_mem_cons.mpr ⟨lw_p12, List.forall_mem_cons.mpr ⟨lw_p13, List.forall_mem_cons.mpr ⟨lw_p14, List.forall_mem_cons.mpr ⟨lw_p15, fun _ h => absurd h List.not_mem_nil⟩⟩⟩⟩⟩⟩⟩⟩⟩⟩⟩⟩⟩⟩⟩⟩
theorem lw_p16 : lw_okq (⟨"GoodHalfEmpty$Text", "digitAt", "(I)I"⟩, 2) := ⟨⟨by decide +kernel, by decide +kernel⟩, List.mem_of_getElem? (i := 160) (by decide +kernel), List.mem_of_getElem? (i := 467) (by decide +kernel), List.mem_of_getElem? (i := 468) (by decide +kernel)⟩
theorem lw_p17 : lw_okq (⟨"GoodHalfEmpty$Town", "setChairs", "(I)Z"⟩, 9) := ⟨⟨by decide +kernel, by decide +kernel⟩, List.mem_of_getElem? (i := 25) (by decide +kernel), List.mem_of_getElem? (i := 471) (by decide +kernel), List.mem_of_getElem? (i := 472) (by decide +kernel)⟩
theorem lw_p18 : lw_okq (⟨"GoodHalfEmpty$Town", "addWeek", "(I)Z"⟩, 9) := ⟨⟨by decide +kernel, by decide +kernel⟩, List.mem_of_getElem? (i := 25) (by decide +kernel), List.mem_of_getElem? (i := 475) (by decide +kernel), List.mem_of_getElem? (i := 476) (by decide +kernel)⟩
theorem lw_p19 : lw_okq (⟨"GoodHalfEmpty$Memory", "add", "(I)V"⟩, 2) := ⟨⟨by decide +kernel, by decide +kernel⟩, List.mem_of_getElem? (i := 106) (by decide +kernel), List.mem_of_getElem? (i := 479) (by decide +kernel), List.mem_of_getElem? (i := 480) (by decide +kernel)⟩
theorem lw_p20 : lw_okq (⟨"GoodHalfEmpty$Rules", "add", "(II)Z"⟩, 4) := ⟨⟨by decide +kernel, by decide +kernel⟩, List.mem_of_getElem? (i := 79) (by decide +kernel), List.mem_of_getElem? (i := 486) (by decide +kernel), List.mem_of_getElem? (i := 487) (by decide +kernel)⟩
theorem lw_p21 : lw_okq (⟨"GoodHalfEmpty$Text", "tellSort", "(LGoodHalfEmpty$Town;I)Z"⟩, 2) := ⟨⟨by decide +kernel, by decide +kernel⟩, List.mem_of_getElem? (i := 160) (by decide +kernel), List.mem_of_getElem? (i := 491) (by decide +kernel), List.mem_of_getElem? (i := 492) (by decide +kernel)⟩
theorem lw_p22 : lw_okq (⟨"GoodHalfEmpty$Town", "mayFollow", "(II)Z"⟩, 9) := ⟨⟨by decide +kernel, by decide +kernel⟩, List.mem_of_getElem? (i := 25) (by decide +kernel), List.mem_of_getElem? (i := 495) (by decide +kernel), List.mem_of_getElem? (i := 496) (by decide +kernel)⟩
theorem lw_p23 : lw_okq (⟨"GoodHalfEmpty$Rules", "has", "(I)Z"⟩, 4) := ⟨⟨by decide +kernel, by decide +kernel⟩, List.mem_of_getElem? (i := 79) (by decide +kernel), List.mem_of_getElem? (i := 499) (by decide +kernel), List.mem_of_getElem? (i := 500) (by decide +kernel)⟩
theorem lw_p24 : lw_okq (⟨"GoodHalfEmpty$Sorts", "add", "(IIIIII)Z"⟩, 7) := ⟨⟨by decide +kernel, by decide +kernel⟩, List.mem_of_getElem? (i := 31) (by decide +kernel), List.mem_of_getElem? (i := 503) (by decide +kernel), List.mem_of_getElem? (i := 504) (by decide +kernel)⟩
theorem lw_p25 : lw_okq (⟨"GoodHalfEmpty$Text", "clear", "()V"⟩, 2) := ⟨⟨by decide +kernel, by decide +kernel⟩, List.mem_of_getElem? (i := 160) (by decide +kernel), List.mem_of_getElem? (i := 508) (by decide +kernel), List.mem_of_getElem? (i := 509) (by decide +kernel)⟩
theorem lw_p26 : lw_okq (⟨"GoodHalfEmpty$Sorts", "has", "(I)Z"⟩, 7) := ⟨⟨by decide +kernel, by decide +kernel⟩, List.mem_of_getElem? (i := 31) (by decide +kernel), List.mem_of_getElem? (i := 517) (by decide +kernel), List.mem_of_getElem? (i := 518) (by decide +kernel)⟩
theorem lw_p27 : lw_okq (⟨"GoodHalfEmpty$Town", "foretells", "(II)I"⟩, 9) := ⟨⟨by decide +kernel, by decide +kernel⟩, List.mem_of_getElem? (i := 25) (by decide +kernel), List.mem_of_getElem? (i := 526) (by decide +kernel), List.mem_of_getElem? (i := 527) (by decide +kernel)⟩
theorem lw_p28 : lw_okq (⟨"GoodHalfEmpty$Town", "presentAgo", "(I)I"⟩, 9) := ⟨⟨by decide +kernel, by decide +kernel⟩, List.mem_of_getElem? (i := 25) (by decide +kernel), List.mem_of_getElem? (i := 530) (by decide +kernel), List.mem_of_getElem? (i := 531) (by decide +kernel)⟩
theorem lw_p29 : lw_okq (⟨"GoodHalfEmpty$Sorts", "people", "()I"⟩, 7) := ⟨⟨by decide +kernel, by decide +kernel⟩, List.mem_of_getElem? (i := 31) (by decide +kernel), List.mem_of_getElem? (i := 534) (by decide +kernel), List.mem_of_getElem? (i := 535) (by decide +kernel)⟩
theorem lw_p30 : lw_okq (⟨"GoodHalfEmpty$Town", "meanPresent", "(I)I"⟩, 9) := ⟨⟨by decide +kernel, by decide +kernel⟩, List.mem_of_getElem? (i := 25) (by decide +kernel), List.mem_of_getElem? (i := 540) (by decide +kernel), List.mem_of_getElem? (i := 541) (by decide +kernel)⟩
theorem lw_p31 : lw_okq (⟨"GoodHalfEmpty$Town", "goBy", "()I"⟩, 9) := ⟨⟨by decide +kernel, by decide +kernel⟩, List.mem_of_getElem? (i := 25) (by decide +kernel), List.mem_of_getElem? (i := 560) (by decide +kernel), List.mem_of_getElem? (i := 561) (by decide +kernel)⟩
def lw_privs_2 : List (MethodName × Nat) := [(⟨"GoodHalfEmpty$Text", "digitAt", "(I)I"⟩, 2), (⟨"GoodHalfEmpty$Town", "setChairs", "(I)Z"⟩, 9), (⟨"GoodHalfEmpty$Town", "addWeek", "(I)Z"⟩, 9), (⟨"GoodHalfEmpty$Memory", "add", "(I)V"⟩, 2), (⟨"GoodHalfEmpty$Rules", "add", "(II)Z"⟩, 4), (⟨"GoodHalfEmpty$Text", "tellSort", "(LGoodHalfEmpty$Town;I)Z"⟩, 2), (⟨"GoodHalfEmpty$Town", "mayFollow", "(II)Z"⟩, 9), (⟨"GoodHalfEmpty$Rules", "has", "(I)Z"⟩, 4), (⟨"GoodHalfEmpty$Sorts", "add", "(IIIIII)Z"⟩, 7), (⟨"GoodHalfEmpty$Text", "clear", "()V"⟩, 2), (⟨"GoodHalfEmpty$Sorts", "has", "(I)Z"⟩, 7), (⟨"GoodHalfEmpty$Town", "foretells", "(II)I"⟩, 9), (⟨"GoodHalfEmpty$Town", "presentAgo", "(I)I"⟩, 9), (⟨"GoodHalfEmpty$Sorts", "people", "()I"⟩, 7), (⟨"GoodHalfEmpty$Town", "meanPresent", "(I)I"⟩, 9), (⟨"GoodHalfEmpty$Town", "goBy", "()I"⟩, 9)]
theorem lw_r2 : ∀ q ∈ lw_privs_2, lw_okq q := List.forall_mem_cons.mpr ⟨lw_p16, List.forall_mem_cons.mpr ⟨lw_p17, List.forall_mem_cons.mpr ⟨lw_p18, List.forall_mem_cons.mpr ⟨lw_p19, List.forall_mem_cons.mpr ⟨lw_p20, List.forall_mem_cons.mpr ⟨lw_p21, List.forall_mem_cons.mpr ⟨lw_p22, List.forall_mem_cons.mpr ⟨lw_p23, List.forall_mem_cons.mpr ⟨lw_p24, List.forall_mem_cons.mpr ⟨lw_p25, List.forall_mem_cons.mpr ⟨lw_p26, List.forall_mem_cons.mpr ⟨lw_p27, List.forall_mem_cons.mpr ⟨lw_p28, List.forall_mem_cons.mpr ⟨lw_p29, List.forall_mem_cons.mpr ⟨lw_p30, List.forall_mem_cons.mpr ⟨lw_p31, fun _ h => absurd h List.not_mem_nil⟩⟩⟩⟩⟩⟩⟩⟩⟩⟩⟩⟩⟩⟩⟩⟩
theorem lw_p32 : lw_okq (⟨"GoodHalfEmpty$Town", "askRules", "()V"⟩, 9) := ⟨⟨by decide +kernel, by decide +kernel⟩, List.mem_of_getElem? (i := 25) (by decide +kernel), List.mem_of_getElem? (i := 564) (by decide +kernel), List.mem_of_getElem? (i := 565) (by decide +kernel)⟩
theorem lw_p33 : lw_okq (⟨"GoodHalfEmpty$Town", "askSorts", "()V"⟩, 9) := ⟨⟨by decide +kernel, by decide +kernel⟩, List.mem_of_getElem? (i := 25) (by decide +kernel), List.mem_of_getElem? (i := 571) (by decide +kernel), List.mem_of_getElem? (i := 572) (by decide +kernel)⟩
theorem lw_p34 : lw_okq (⟨"GoodHalfEmpty$Town", "wantsToGo", "(I)Z"⟩, 9) := ⟨⟨by decide +kernel, by decide +kernel⟩, List.mem_of_getElem? (i := 25) (by decide +kernel), List.mem_of_getElem? (i := 575) (by decide +kernel), List.mem_of_getElem? (i := 576) (by decide +kernel)⟩
theorem lw_p35 : lw_okq (⟨"GoodHalfEmpty$Rules", "mostRight", "(I)I"⟩, 4) := ⟨⟨by decide +kernel, by decide +kernel⟩, List.mem_of_getElem? (i := 79) (by decide +kernel), List.mem_of_getElem? (i := 579) (by decide +kernel), List.mem_of_getElem? (i := 580) (by decide +kernel)⟩
theorem lw_p36 : lw_okq (⟨"GoodHalfEmpty$Town", "settle", "(IZ)V"⟩, 9) := ⟨⟨by decide +kernel, by decide +kernel⟩, List.mem_of_getElem? (i := 25) (by decide +kernel), List.mem_of_getElem? (i := 587) (by decide +kernel), List.mem_of_getElem? (i := 588) (by decide +kernel)⟩
theorem lw_p37 : lw_okq (⟨"GoodHalfEmpty$Town", "isRight", "(I)Z"⟩, 9) := ⟨⟨by decide +kernel, by decide +kernel⟩, List.mem_of_getElem? (i := 25) (by decide +kernel), List.mem_of_getElem? (i := 591) (by decide +kernel), List.mem_of_getElem? (i := 592) (by decide +kernel)⟩
theorem lw_p38 : lw_okq (⟨"GoodHalfEmpty$Town", "decide", "()V"⟩, 9) := ⟨⟨by decide +kernel, by decide +kernel⟩, List.mem_of_getElem? (i := 25) (by decide +kernel), List.mem_of_getElem? (i := 599) (by decide +kernel), List.mem_of_getElem? (i := 600) (by decide +kernel)⟩
theorem lw_p39 : lw_okq (⟨"GoodHalfEmpty", "refuseWorth", "(I)I"⟩, 11) := ⟨⟨by decide +kernel, by decide +kernel⟩, List.mem_of_getElem? (i := 17) (by decide +kernel), List.mem_of_getElem? (i := 611) (by decide +kernel), List.mem_of_getElem? (i := 612) (by decide +kernel)⟩
theorem lw_p40 : lw_okq (⟨"GoodHalfEmpty$Town", "worthToAll", "()I"⟩, 9) := ⟨⟨by decide +kernel, by decide +kernel⟩, List.mem_of_getElem? (i := 25) (by decide +kernel), List.mem_of_getElem? (i := 616) (by decide +kernel), List.mem_of_getElem? (i := 617) (by decide +kernel)⟩
theorem lw_p41 : lw_okq (⟨"GoodHalfEmpty$Town", "worthToOne", "(I)I"⟩, 9) := ⟨⟨by decide +kernel, by decide +kernel⟩, List.mem_of_getElem? (i := 25) (by decide +kernel), List.mem_of_getElem? (i := 620) (by decide +kernel), List.mem_of_getElem? (i := 621) (by decide +kernel)⟩
theorem lw_p42 : lw_okq (⟨"GoodHalfEmpty", "lookAhead", "(II)V"⟩, 11) := ⟨⟨by decide +kernel, by decide +kernel⟩, List.mem_of_getElem? (i := 17) (by decide +kernel), List.mem_of_getElem? (i := 629) (by decide +kernel), List.mem_of_getElem? (i := 630) (by decide +kernel)⟩
theorem lw_p43 : lw_okq (⟨"GoodHalfEmpty$Rules", "lengthen", "(I)V"⟩, 4) := ⟨⟨by decide +kernel, by decide +kernel⟩, List.mem_of_getElem? (i := 79) (by decide +kernel), List.mem_of_getElem? (i := 633) (by decide +kernel), List.mem_of_getElem? (i := 634) (by decide +kernel)⟩
theorem lw_p44 : lw_okq (⟨"GoodHalfEmpty", "swingOf", "(I)I"⟩, 11) := ⟨⟨by decide +kernel, by decide +kernel⟩, List.mem_of_getElem? (i := 17) (by decide +kernel), List.mem_of_getElem? (i := 647) (by decide +kernel), List.mem_of_getElem? (i := 648) (by decide +kernel)⟩
theorem lw_p45 : lw_okq (⟨"GoodHalfEmpty", "comesAgainAfter", "(I)Z"⟩, 11) := ⟨⟨by decide +kernel, by decide +kernel⟩, List.mem_of_getElem? (i := 17) (by decide +kernel), List.mem_of_getElem? (i := 661) (by decide +kernel), List.mem_of_getElem? (i := 662) (by decide +kernel)⟩
theorem lw_p46 : lw_okq (⟨"GoodHalfEmpty", "gainsInMind", "(II)I"⟩, 11) := ⟨⟨by decide +kernel, by decide +kernel⟩, List.mem_of_getElem? (i := 17) (by decide +kernel), List.mem_of_getElem? (i := 669) (by decide +kernel), List.mem_of_getElem? (i := 670) (by decide +kernel)⟩
theorem lw_p47 : lw_okq (⟨"GoodHalfEmpty$Plans", "restingPlans", "(LGoodHalfEmpty$Sorts;II)I"⟩, 4) := ⟨⟨by decide +kernel, by decide +kernel⟩, List.mem_of_getElem? (i := 174) (by decide +kernel), List.mem_of_getElem? (i := 677) (by decide +kernel), List.mem_of_getElem? (i := 678) (by decide +kernel)⟩
def lw_privs_3 : List (MethodName × Nat) := [(⟨"GoodHalfEmpty$Town", "askRules", "()V"⟩, 9), (⟨"GoodHalfEmpty$Town", "askSorts", "()V"⟩, 9), (⟨"GoodHalfEmpty$Town", "wantsToGo", "(I)Z"⟩, 9), (⟨"GoodHalfEmpty$Rules", "mostRight", "(I)I"⟩, 4), (⟨"GoodHalfEmpty$Town", "settle", "(IZ)V"⟩, 9), (⟨"GoodHalfEmpty$Town", "isRight", "(I)Z"⟩, 9), (⟨"GoodHalfEmpty$Town", "decide", "()V"⟩, 9), (⟨"GoodHalfEmpty", "refuseWorth", "(I)I"⟩, 11), (⟨"GoodHalfEmpty$Town", "worthToAll", "()I"⟩, 9), (⟨"GoodHalfEmpty$Town", "worthToOne", "(I)I"⟩, 9), (⟨"GoodHalfEmpty", "lookAhead", "(II)V"⟩, 11), (⟨"GoodHalfEmpty$Rules", "lengthen", "(I)V"⟩, 4), (⟨"GoodHalfEmpty", "swingOf", "(I)I"⟩, 11), (⟨"GoodHalfEmpty", "comesAgainAfter", "(I)Z"⟩, 11), (⟨"GoodHalfEmpty", "gainsInMind", "(II)I"⟩, 11), (⟨"GoodHalfEmpty$Plans", "restingPlans", "(LGoodHalfEmpty$Sorts;II)I"⟩, 4)]
theorem lw_r3 : ∀ q ∈ lw_privs_3, lw_okq q := List.forall_mem_cons.mpr ⟨lw_p32, List.forall_mem_cons.mpr ⟨lw_p33, List.forall_mem_cons.mpr ⟨lw_p34, List.forall_mem_cons.mpr ⟨lw_p35, List.forall_mem_cons.mpr ⟨lw_p36, List.forall_mem_cons.mpr ⟨lw_p37, List.forall_mem_cons.mpr ⟨lw_p38, List.forall_mem_cons.mpr ⟨lw_p39, List.forall_mem_cons.mpr ⟨lw_p40, List.forall_mem_cons.mpr ⟨lw_p41, List.forall_mem_cons.mpr ⟨lw_p42, List.forall_mem_cons.mpr ⟨lw_p43, List.forall_mem_cons.mpr ⟨lw_p44, List.forall_mem_cons.mpr ⟨lw_p45, List.forall_mem_cons.mpr ⟨lw_p46, List.forall_mem_cons.mpr ⟨lw_p47, fun _ h => absurd h List.not_mem_nil⟩⟩⟩⟩⟩⟩⟩⟩⟩⟩⟩⟩⟩⟩⟩⟩
theorem lw_p48 : lw_okq (⟨"GoodHalfEmpty$Plans", "boxResting", "(LGoodHalfEmpty$Sorts;III)V"⟩, 4) := ⟨⟨by decide +kernel, by decide +kernel⟩, List.mem_of_getElem? (i := 174) (by decide +kernel), List.mem_of_getElem? (i := 681) (by decide +kernel), List.mem_of_getElem? (i := 682) (by decide +kernel)⟩
theorem lw_p49 : lw_okq (⟨"GoodHalfEmpty$Plans", "beginBand", "(II)V"⟩, 4) := ⟨⟨by decide +kernel, by decide +kernel⟩, List.mem_of_getElem? (i := 174) (by decide +kernel), List.mem_of_getElem? (i := 685) (by decide +kernel), List.mem_of_getElem? (i := 686) (by decide +kernel)⟩
theorem lw_p50 : lw_okq (⟨"GoodHalfEmpty$Box", "begin", "(II)V"⟩, 8) := ⟨⟨by decide +kernel, by decide +kernel⟩, List.mem_of_getElem? (i := 180) (by decide +kernel), List.mem_of_getElem? (i := 689) (by decide +kernel), List.mem_of_getElem? (i := 690) (by decide +kernel)⟩
theorem lw_p51 : lw_okq (⟨"GoodHalfEmpty$Box", "add", "(IIIII)V"⟩, 8) := ⟨⟨by decide +kernel, by decide +kernel⟩, List.mem_of_getElem? (i := 180) (by decide +kernel), List.mem_of_getElem? (i := 694) (by decide +kernel), List.mem_of_getElem? (i := 695) (by decide +kernel)⟩
theorem lw_p52 : lw_okq (⟨"GoodHalfEmpty$Box", "plans", "()I"⟩, 8) := ⟨⟨by decide +kernel, by decide +kernel⟩, List.mem_of_getElem? (i := 180) (by decide +kernel), List.mem_of_getElem? (i := 700) (by decide +kernel), List.mem_of_getElem? (i := 701) (by decide +kernel)⟩
theorem lw_p53 : lw_okq (⟨"GoodHalfEmpty$Box", "hasPlan", "()Z"⟩, 8) := ⟨⟨by decide +kernel, by decide +kernel⟩, List.mem_of_getElem? (i := 180) (by decide +kernel), List.mem_of_getElem? (i := 704) (by decide +kernel), List.mem_of_getElem? (i := 705) (by decide +kernel)⟩
theorem lw_p54 : lw_okq (⟨"GoodHalfEmpty$Box", "countWays", "()V"⟩, 8) := ⟨⟨by decide +kernel, by decide +kernel⟩, List.mem_of_getElem? (i := 180) (by decide +kernel), List.mem_of_getElem? (i := 709) (by decide +kernel), List.mem_of_getElem? (i := 710) (by decide +kernel)⟩
theorem lw_p55 : lw_okq (⟨"GoodHalfEmpty$Plans", "findFirstResting", "(LGoodHalfEmpty$Sorts;II)Z"⟩, 4) := ⟨⟨by decide +kernel, by decide +kernel⟩, List.mem_of_getElem? (i := 174) (by decide +kernel), List.mem_of_getElem? (i := 718) (by decide +kernel), List.mem_of_getElem? (i := 719) (by decide +kernel)⟩
theorem lw_p56 : lw_okq (⟨"GoodHalfEmpty$Plans", "offerFirst", "(I)V"⟩, 4) := ⟨⟨by decide +kernel, by decide +kernel⟩, List.mem_of_getElem? (i := 174) (by decide +kernel), List.mem_of_getElem? (i := 724) (by decide +kernel), List.mem_of_getElem? (i := 725) (by decide +kernel)⟩
theorem lw_p57 : lw_okq (⟨"GoodHalfEmpty$Box", "keepFirst", "(I)V"⟩, 8) := ⟨⟨by decide +kernel, by decide +kernel⟩, List.mem_of_getElem? (i := 180) (by decide +kernel), List.mem_of_getElem? (i := 728) (by decide +kernel), List.mem_of_getElem? (i := 729) (by decide +kernel)⟩
theorem lw_p58 : lw_okq (⟨"GoodHalfEmpty$Box", "greatestWorth", "()I"⟩, 8) := ⟨⟨by decide +kernel, by decide +kernel⟩, List.mem_of_getElem? (i := 180) (by decide +kernel), List.mem_of_getElem? (i := 733) (by decide +kernel), List.mem_of_getElem? (i := 734) (by decide +kernel)⟩
theorem lw_p59 : lw_okq (⟨"GoodHalfEmpty$Box", "greatestGain", "(I)I"⟩, 8) := ⟨⟨by decide +kernel, by decide +kernel⟩, List.mem_of_getElem? (i := 180) (by decide +kernel), List.mem_of_getElem? (i := 737) (by decide +kernel), List.mem_of_getElem? (i := 738) (by decide +kernel)⟩
theorem lw_p60 : lw_okq (⟨"GoodHalfEmpty$Plans", "isBoxBeforeFirst", "()Z"⟩, 4) := ⟨⟨by decide +kernel, by decide +kernel⟩, List.mem_of_getElem? (i := 174) (by decide +kernel), List.mem_of_getElem? (i := 741) (by decide +kernel), List.mem_of_getElem? (i := 742) (by decide +kernel)⟩
theorem lw_p61 : lw_okq (⟨"GoodHalfEmpty$Plans", "presentOfFirst", "()I"⟩, 4) := ⟨⟨by decide +kernel, by decide +kernel⟩, List.mem_of_getElem? (i := 174) (by decide +kernel), List.mem_of_getElem? (i := 746) (by decide +kernel), List.mem_of_getElem? (i := 747) (by decide +kernel)⟩
theorem lw_p62 : lw_okq (⟨"GoodHalfEmpty$Plans", "bestWorth", "(LGoodHalfEmpty$Sorts;II)I"⟩, 4) := ⟨⟨by decide +kernel, by decide +kernel⟩, List.mem_of_getElem? (i := 174) (by decide +kernel), List.mem_of_getElem? (i := 754) (by decide +kernel), List.mem_of_getElem? (i := 755) (by decide +kernel)⟩
theorem lw_p63 : lw_okq (⟨"GoodHalfEmpty$Plans", "boxAll", "(LGoodHalfEmpty$Sorts;III)V"⟩, 4) := ⟨⟨by decide +kernel, by decide +kernel⟩, List.mem_of_getElem? (i := 174) (by decide +kernel), List.mem_of_getElem? (i := 758) (by decide +kernel), List.mem_of_getElem? (i := 759) (by decide +kernel)⟩
def lw_privs_4 : List (MethodName × Nat) := [(⟨"GoodHalfEmpty$Plans", "boxResting", "(LGoodHalfEmpty$Sorts;III)V"⟩, 4), (⟨"GoodHalfEmpty$Plans", "beginBand", "(II)V"⟩, 4), (⟨"GoodHalfEmpty$Box", "begin", "(II)V"⟩, 8), (⟨"GoodHalfEmpty$Box", "add", "(IIIII)V"⟩, 8), (⟨"GoodHalfEmpty$Box", "plans", "()I"⟩, 8), (⟨"GoodHalfEmpty$Box", "hasPlan", "()Z"⟩, 8), (⟨"GoodHalfEmpty$Box", "countWays", "()V"⟩, 8), (⟨"GoodHalfEmpty$Plans", "findFirstResting", "(LGoodHalfEmpty$Sorts;II)Z"⟩, 4), (⟨"GoodHalfEmpty$Plans", "offerFirst", "(I)V"⟩, 4), (⟨"GoodHalfEmpty$Box", "keepFirst", "(I)V"⟩, 8), (⟨"GoodHalfEmpty$Box", "greatestWorth", "()I"⟩, 8), (⟨"GoodHalfEmpty$Box", "greatestGain", "(I)I"⟩, 8), (⟨"GoodHalfEmpty$Plans", "isBoxBeforeFirst", "()Z"⟩, 4), (⟨"GoodHalfEmpty$Plans", "presentOfFirst", "()I"⟩, 4), (⟨"GoodHalfEmpty$Plans", "bestWorth", "(LGoodHalfEmpty$Sorts;II)I"⟩, 4), (⟨"GoodHalfEmpty$Plans", "boxAll", "(LGoodHalfEmpty$Sorts;III)V"⟩, 4)]
theorem lw_r4 : ∀ q ∈ lw_privs_4, lw_okq q := List.forall_mem_cons.mpr ⟨lw_p48, List.forall_mem_cons.mpr ⟨lw_p49, List.forall_mem_cons.mpr ⟨lw_p50, List.forall_mem_cons.mpr ⟨lw_p51, List.forall_mem_cons.mpr ⟨lw_p52, List.forall_mem_cons.mpr ⟨lw_p53, List.forall_mem_cons.mpr ⟨lw_p54, List.forall_mem_cons.mpr ⟨lw_p55, List.forall_mem_cons.mpr ⟨lw_p56, List.forall_mem_cons.mpr ⟨lw_p57, List.forall_mem_cons.mpr ⟨lw_p58, List.forall_mem_cons.mpr ⟨lw_p59, List.forall_mem_cons.mpr ⟨lw_p60, List.forall_mem_cons.mpr ⟨lw_p61, List.forall_mem_cons.mpr ⟨lw_p62, List.forall_mem_cons.mpr ⟨lw_p63, fun _ h => absurd h List.not_mem_nil⟩⟩⟩⟩⟩⟩⟩⟩⟩⟩⟩⟩⟩⟩⟩⟩
theorem lw_p64 : lw_okq (⟨"GoodHalfEmpty$Plans", "findFirstBest", "(LGoodHalfEmpty$Sorts;II)V"⟩, 4) := ⟨⟨by decide +kernel, by decide +kernel⟩, List.mem_of_getElem? (i := 174) (by decide +kernel), List.mem_of_getElem? (i := 764) (by decide +kernel), List.mem_of_getElem? (i := 765) (by decide +kernel)⟩
theorem lw_p65 : lw_okq (⟨"GoodHalfEmpty$Plans", "bestRestingWorth", "(LGoodHalfEmpty$Sorts;II)I"⟩, 4) := ⟨⟨by decide +kernel, by decide +kernel⟩, List.mem_of_getElem? (i := 174) (by decide +kernel), List.mem_of_getElem? (i := 773) (by decide +kernel), List.mem_of_getElem? (i := 774) (by decide +kernel)⟩
theorem lw_p66 : lw_okq (⟨"GoodHalfEmpty", "tallyRight", "(I)V"⟩, 11) := ⟨⟨by decide +kernel, by decide +kernel⟩, List.mem_of_getElem? (i := 17) (by decide +kernel), List.mem_of_getElem? (i := 795) (by decide +kernel), List.mem_of_getElem? (i := 796) (by decide +kernel)⟩
theorem lw_p67 : lw_okq (⟨"GoodHalfEmpty$Town", "drawMemory", "(I)I"⟩, 9) := ⟨⟨by decide +kernel, by decide +kernel⟩, List.mem_of_getElem? (i := 25) (by decide +kernel), List.mem_of_getElem? (i := 808) (by decide +kernel), List.mem_of_getElem? (i := 809) (by decide +kernel)⟩
theorem lw_p68 : lw_okq (⟨"GoodHalfEmptyModel", "no", "(I)I"⟩, 27) := ⟨⟨by decide +kernel, by decide +kernel⟩, List.mem_of_getElem? (i := 849) (by decide +kernel), List.mem_of_getElem? (i := 847) (by decide +kernel), List.mem_of_getElem? (i := 848) (by decide +kernel)⟩
theorem lw_p69 : lw_okq (⟨"GoodHalfEmptyModel", "read", "()I"⟩, 27) := ⟨⟨by decide +kernel, by decide +kernel⟩, List.mem_of_getElem? (i := 849) (by decide +kernel), List.mem_of_getElem? (i := 949) (by decide +kernel), List.mem_of_getElem? (i := 950) (by decide +kernel)⟩
theorem lw_p70 : lw_okq (⟨"GoodHalfEmptyModel", "statement", "()V"⟩, 27) := ⟨⟨by decide +kernel, by decide +kernel⟩, List.mem_of_getElem? (i := 849) (by decide +kernel), List.mem_of_getElem? (i := 953) (by decide +kernel), List.mem_of_getElem? (i := 954) (by decide +kernel)⟩
theorem lw_p71 : lw_okq (⟨"GoodHalfEmptyModel", "oneOf", "([C)I"⟩, 27) := ⟨⟨by decide +kernel, by decide +kernel⟩, List.mem_of_getElem? (i := 849) (by decide +kernel), List.mem_of_getElem? (i := 957) (by decide +kernel), List.mem_of_getElem? (i := 958) (by decide +kernel)⟩
theorem lw_p72 : lw_okq (⟨"GoodHalfEmptyModel", "figures", "(I)I"⟩, 27) := ⟨⟨by decide +kernel, by decide +kernel⟩, List.mem_of_getElem? (i := 849) (by decide +kernel), List.mem_of_getElem? (i := 961) (by decide +kernel), List.mem_of_getElem? (i := 962) (by decide +kernel)⟩
theorem lw_p73 : lw_okq (⟨"GoodHalfEmptyModel", "expect", "(C)V"⟩, 27) := ⟨⟨by decide +kernel, by decide +kernel⟩, List.mem_of_getElem? (i := 849) (by decide +kernel), List.mem_of_getElem? (i := 965) (by decide +kernel), List.mem_of_getElem? (i := 966) (by decide +kernel)⟩
theorem lw_p74 : lw_okq (⟨"GoodHalfEmptyModel", "isAsItMustBe", "(II)Z"⟩, 27) := ⟨⟨by decide +kernel, by decide +kernel⟩, List.mem_of_getElem? (i := 849) (by decide +kernel), List.mem_of_getElem? (i := 969) (by decide +kernel), List.mem_of_getElem? (i := 970) (by decide +kernel)⟩
theorem lw_p75 : lw_okq (⟨"GoodHalfEmptyModel", "come", "()V"⟩, 27) := ⟨⟨by decide +kernel, by decide +kernel⟩, List.mem_of_getElem? (i := 849) (by decide +kernel), List.mem_of_getElem? (i := 973) (by decide +kernel), List.mem_of_getElem? (i := 974) (by decide +kernel)⟩
theorem lw_p76 : lw_okq (⟨"GoodHalfEmptyModel", "remember", "(I)V"⟩, 27) := ⟨⟨by decide +kernel, by decide +kernel⟩, List.mem_of_getElem? (i := 849) (by decide +kernel), List.mem_of_getElem? (i := 977) (by decide +kernel), List.mem_of_getElem? (i := 978) (by decide +kernel)⟩
theorem lw_p77 : lw_okq (⟨"GoodHalfEmptyModel", "isNoSort", "(I)Z"⟩, 27) := ⟨⟨by decide +kernel, by decide +kernel⟩, List.mem_of_getElem? (i := 849) (by decide +kernel), List.mem_of_getElem? (i := 985) (by decide +kernel), List.mem_of_getElem? (i := 986) (by decide +kernel)⟩
theorem lw_p78 : lw_okq (⟨"GoodHalfEmptyModel", "of", "(II)I"⟩, 27) := ⟨⟨by decide +kernel, by decide +kernel⟩, List.mem_of_getElem? (i := 849) (by decide +kernel), List.mem_of_getElem? (i := 989) (by decide +kernel), List.mem_of_getElem? (i := 990) (by decide +kernel)⟩
theorem lw_p79 : lw_okq (⟨"GoodHalfEmptyModel", "foretold", "(II)I"⟩, 27) := ⟨⟨by decide +kernel, by decide +kernel⟩, List.mem_of_getElem? (i := 849) (by decide +kernel), List.mem_of_getElem? (i := 997) (by decide +kernel), List.mem_of_getElem? (i := 998) (by decide +kernel)⟩
def lw_privs_5 : List (MethodName × Nat) := [(⟨"GoodHalfEmpty$Plans", "findFirstBest", "(LGoodHalfEmpty$Sorts;II)V"⟩, 4), (⟨"GoodHalfEmpty$Plans", "bestRestingWorth", "(LGoodHalfEmpty$Sorts;II)I"⟩, 4), (⟨"GoodHalfEmpty", "tallyRight", "(I)V"⟩, 11), (⟨"GoodHalfEmpty$Town", "drawMemory", "(I)I"⟩, 9), (⟨"GoodHalfEmptyModel", "no", "(I)I"⟩, 27), (⟨"GoodHalfEmptyModel", "read", "()I"⟩, 27), (⟨"GoodHalfEmptyModel", "statement", "()V"⟩, 27), (⟨"GoodHalfEmptyModel", "oneOf", "([C)I"⟩, 27), (⟨"GoodHalfEmptyModel", "figures", "(I)I"⟩, 27), (⟨"GoodHalfEmptyModel", "expect", "(C)V"⟩, 27), (⟨"GoodHalfEmptyModel", "isAsItMustBe", "(II)Z"⟩, 27), (⟨"GoodHalfEmptyModel", "come", "()V"⟩, 27), (⟨"GoodHalfEmptyModel", "remember", "(I)V"⟩, 27), (⟨"GoodHalfEmptyModel", "isNoSort", "(I)Z"⟩, 27), (⟨"GoodHalfEmptyModel", "of", "(II)I"⟩, 27), (⟨"GoodHalfEmptyModel", "foretold", "(II)I"⟩, 27)]
theorem lw_r5 : ∀ q ∈ lw_privs_5, lw_okq q := List.forall_mem_cons.mpr ⟨lw_p64, List.forall_mem_cons.mpr ⟨lw_p65, List.forall_mem_cons.mpr ⟨lw_p66, List.forall_mem_cons.mpr ⟨lw_p67, List.forall_mem_cons.mpr ⟨lw_p68, List.forall_mem_cons.mpr ⟨lw_p69, List.forall_mem_cons.mpr ⟨lw_p70, List.forall_mem_cons.mpr ⟨lw_p71, List.forall_mem_cons.mpr ⟨lw_p72, List.forall_mem_cons.mpr ⟨lw_p73, List.forall_mem_cons.mpr ⟨lw_p74, List.forall_mem_cons.mpr ⟨lw_p75, List.forall_mem_cons.mpr ⟨lw_p76, List.forall_mem_cons.mpr ⟨lw_p77, List.forall_mem_cons.mpr ⟨lw_p78, List.forall_mem_cons.mpr ⟨lw_p79, fun _ h => absurd h List.not_mem_nil⟩⟩⟩⟩⟩⟩⟩⟩⟩⟩⟩⟩⟩⟩⟩⟩
theorem lw_p80 : lw_okq (⟨"GoodHalfEmptyModel", "ago", "(I)I"⟩, 27) := ⟨⟨by decide +kernel, by decide +kernel⟩, List.mem_of_getElem? (i := 849) (by decide +kernel), List.mem_of_getElem? (i := 1001) (by decide +kernel), List.mem_of_getElem? (i := 1002) (by decide +kernel)⟩
theorem lw_p81 : lw_okq (⟨"GoodHalfEmptyModel", "people", "()I"⟩, 27) := ⟨⟨by decide +kernel, by decide +kernel⟩, List.mem_of_getElem? (i := 849) (by decide +kernel), List.mem_of_getElem? (i := 1005) (by decide +kernel), List.mem_of_getElem? (i := 1006) (by decide +kernel)⟩
theorem lw_p82 : lw_okq (⟨"GoodHalfEmptyModel", "goOn", "()I"⟩, 27) := ⟨⟨by decide +kernel, by decide +kernel⟩, List.mem_of_getElem? (i := 849) (by decide +kernel), List.mem_of_getElem? (i := 1022) (by decide +kernel), List.mem_of_getElem? (i := 1023) (by decide +kernel)⟩
theorem lw_p83 : lw_okq (⟨"GoodHalfEmptyModel", "present", "()I"⟩, 27) := ⟨⟨by decide +kernel, by decide +kernel⟩, List.mem_of_getElem? (i := 849) (by decide +kernel), List.mem_of_getElem? (i := 1026) (by decide +kernel), List.mem_of_getElem? (i := 1027) (by decide +kernel)⟩
theorem lw_p84 : lw_okq (⟨"GoodHalfEmptyModel", "isRoom", "(I)Z"⟩, 27) := ⟨⟨by decide +kernel, by decide +kernel⟩, List.mem_of_getElem? (i := 849) (by decide +kernel), List.mem_of_getElem? (i := 1030) (by decide +kernel), List.mem_of_getElem? (i := 1031) (by decide +kernel)⟩
theorem lw_p85 : lw_okq (⟨"GoodHalfEmptyModel", "hat", "(I)I"⟩, 27) := ⟨⟨by decide +kernel, by decide +kernel⟩, List.mem_of_getElem? (i := 849) (by decide +kernel), List.mem_of_getElem? (i := 1034) (by decide +kernel), List.mem_of_getElem? (i := 1035) (by decide +kernel)⟩
theorem lw_p86 : lw_okq (⟨"GoodHalfEmptyModel", "worthNext", "(II)I"⟩, 27) := ⟨⟨by decide +kernel, by decide +kernel⟩, List.mem_of_getElem? (i := 849) (by decide +kernel), List.mem_of_getElem? (i := 1051) (by decide +kernel), List.mem_of_getElem? (i := 1052) (by decide +kernel)⟩
theorem lw_p87 : lw_okq (⟨"GoodHalfEmptyModel", "worthGone", "(II)I"⟩, 27) := ⟨⟨by decide +kernel, by decide +kernel⟩, List.mem_of_getElem? (i := 849) (by decide +kernel), List.mem_of_getElem? (i := 1055) (by decide +kernel), List.mem_of_getElem? (i := 1056) (by decide +kernel)⟩
theorem lw_p88 : lw_okq (⟨"GoodHalfEmptyModel", "isWrong", "(II)I"⟩, 27) := ⟨⟨by decide +kernel, by decide +kernel⟩, List.mem_of_getElem? (i := 849) (by decide +kernel), List.mem_of_getElem? (i := 1063) (by decide +kernel), List.mem_of_getElem? (i := 1064) (by decide +kernel)⟩
theorem lw_p89 : lw_okq (⟨"GoodHalfEmptyModel", "goAhead", "(II)I"⟩, 27) := ⟨⟨by decide +kernel, by decide +kernel⟩, List.mem_of_getElem? (i := 849) (by decide +kernel), List.mem_of_getElem? (i := 1067) (by decide +kernel), List.mem_of_getElem? (i := 1068) (by decide +kernel)⟩
theorem lw_p90 : lw_okq (⟨"GoodHalfEmptyModel", "swungIn", "(I)I"⟩, 27) := ⟨⟨by decide +kernel, by decide +kernel⟩, List.mem_of_getElem? (i := 849) (by decide +kernel), List.mem_of_getElem? (i := 1079) (by decide +kernel), List.mem_of_getElem? (i := 1080) (by decide +kernel)⟩
theorem lw_p91 : lw_okq (⟨"GoodHalfEmptyModel", "goThrough", "()V"⟩, 27) := ⟨⟨by decide +kernel, by decide +kernel⟩, List.mem_of_getElem? (i := 849) (by decide +kernel), List.mem_of_getElem? (i := 1100) (by decide +kernel), List.mem_of_getElem? (i := 1101) (by decide +kernel)⟩
theorem lw_p92 : lw_okq (⟨"GoodHalfEmptyModel", "begin", "()V"⟩, 27) := ⟨⟨by decide +kernel, by decide +kernel⟩, List.mem_of_getElem? (i := 849) (by decide +kernel), List.mem_of_getElem? (i := 1104) (by decide +kernel), List.mem_of_getElem? (i := 1105) (by decide +kernel)⟩
theorem lw_p93 : lw_okq (⟨"GoodHalfEmptyModel", "isAtRest", "(I)Z"⟩, 27) := ⟨⟨by decide +kernel, by decide +kernel⟩, List.mem_of_getElem? (i := 849) (by decide +kernel), List.mem_of_getElem? (i := 1108) (by decide +kernel), List.mem_of_getElem? (i := 1109) (by decide +kernel)⟩
theorem lw_p94 : lw_okq (⟨"GoodHalfEmptyModel", "isNextPlan", "()Z"⟩, 27) := ⟨⟨by decide +kernel, by decide +kernel⟩, List.mem_of_getElem? (i := 849) (by decide +kernel), List.mem_of_getElem? (i := 1112) (by decide +kernel), List.mem_of_getElem? (i := 1113) (by decide +kernel)⟩
def lw_privs_6 : List (MethodName × Nat) := [(⟨"GoodHalfEmptyModel", "ago", "(I)I"⟩, 27), (⟨"GoodHalfEmptyModel", "people", "()I"⟩, 27), (⟨"GoodHalfEmptyModel", "goOn", "()I"⟩, 27), (⟨"GoodHalfEmptyModel", "present", "()I"⟩, 27), (⟨"GoodHalfEmptyModel", "isRoom", "(I)Z"⟩, 27), (⟨"GoodHalfEmptyModel", "hat", "(I)I"⟩, 27), (⟨"GoodHalfEmptyModel", "worthNext", "(II)I"⟩, 27), (⟨"GoodHalfEmptyModel", "worthGone", "(II)I"⟩, 27), (⟨"GoodHalfEmptyModel", "isWrong", "(II)I"⟩, 27), (⟨"GoodHalfEmptyModel", "goAhead", "(II)I"⟩, 27), (⟨"GoodHalfEmptyModel", "swungIn", "(I)I"⟩, 27), (⟨"GoodHalfEmptyModel", "goThrough", "()V"⟩, 27), (⟨"GoodHalfEmptyModel", "begin", "()V"⟩, 27), (⟨"GoodHalfEmptyModel", "isAtRest", "(I)Z"⟩, 27), (⟨"GoodHalfEmptyModel", "isNextPlan", "()Z"⟩, 27)]
theorem lw_r6 : ∀ q ∈ lw_privs_6, lw_okq q := List.forall_mem_cons.mpr ⟨lw_p80, List.forall_mem_cons.mpr ⟨lw_p81, List.forall_mem_cons.mpr ⟨lw_p82, List.forall_mem_cons.mpr ⟨lw_p83, List.forall_mem_cons.mpr ⟨lw_p84, List.forall_mem_cons.mpr ⟨lw_p85, List.forall_mem_cons.mpr ⟨lw_p86, List.forall_mem_cons.mpr ⟨lw_p87, List.forall_mem_cons.mpr ⟨lw_p88, List.forall_mem_cons.mpr ⟨lw_p89, List.forall_mem_cons.mpr ⟨lw_p90, List.forall_mem_cons.mpr ⟨lw_p91, List.forall_mem_cons.mpr ⟨lw_p92, List.forall_mem_cons.mpr ⟨lw_p93, List.forall_mem_cons.mpr ⟨lw_p94, fun _ h => absurd h List.not_mem_nil⟩⟩⟩⟩⟩⟩⟩⟩⟩⟩⟩⟩⟩⟩⟩
def lw_privs : List (MethodName × Nat) := lw_privs_1 ++ (lw_privs_2 ++ (lw_privs_3 ++ (lw_privs_4 ++ (lw_privs_5 ++ (lw_privs_6)))))
def lw_tbl : List Cond := k2_sels lw_privs ++ tables_1
theorem lw_privs_ok : ∀ q ∈ lw_privs, lw_okq q := by
  show ∀ q ∈ lw_privs_1 ++ (lw_privs_2 ++ (lw_privs_3 ++ (lw_privs_4 ++ (lw_privs_5 ++ (lw_privs_6))))), lw_okq q
  exact List.forall_mem_append.mpr ⟨lw_r1, List.forall_mem_append.mpr ⟨lw_r2, List.forall_mem_append.mpr ⟨lw_r3, List.forall_mem_append.mpr ⟨lw_r4, List.forall_mem_append.mpr ⟨lw_r5, lw_r6⟩⟩⟩⟩⟩
-- ===== end of PART A; then your names; then what follows =====
def RX0 : String := "GoodHalfEmpty$Box"
def TX0 : u_T := fun k => match k with
  | 0 => ("GoodHalfEmpty$Box", "least", "[I", true)
  | 1 => ("GoodHalfEmpty$Box", "most", "[I", true)
  | 2 => ("GoodHalfEmpty$Box", "gain", "[I", true)
  | 3 => ("GoodHalfEmpty$Box", "ways", "[I", true)
  | 4 => ("GoodHalfEmpty$Box", "size", "I", false)
  | 5 => ("GoodHalfEmpty$Box", "from", "I", false)
  | 6 => ("GoodHalfEmpty$Box", "to", "I", false)
  | _ => ("GoodHalfEmpty$Box", "worthIfNobodyGoes", "I", false)
def tyX0 : Nat → FieldType := fun k => match k with
  | 0 => .array .int
  | 1 => .array .int
  | 2 => .array .int
  | 3 => .array .int
  | 4 => .int
  | 5 => .int
  | 6 => .int
  | _ => .int
abbrev wsX00 : List Cond := u_ws RX0 TX0 8
theorem nmX0 : ∀ a, a < 8 → ∀ b, b < 8 → a ≠ b → (TX0 a).2.1 ≠ (TX0 b).2.1 := by decide +kernel
theorem tyX0_ok : ∀ k, k < 8 → parseFieldDescriptor (TX0 k).2.2.1 = some (tyX0 k) := by decide +kernel
abbrev cX0_init : ByteArray := prog_2_method_1_code
def yX0_init : MethodName := ⟨RX0, "<init>", "()V"⟩
abbrev cX0_begin : ByteArray := prog_2_method_2_code
def yX0_begin : MethodName := ⟨RX0, "begin", "(II)V"⟩
abbrev cX0_add : ByteArray := prog_2_method_3_code
def yX0_add : MethodName := ⟨RX0, "add", "(IIIII)V"⟩
abbrev cX0_hasPlan : ByteArray := prog_2_method_4_code
def yX0_hasPlan : MethodName := ⟨RX0, "hasPlan", "()Z"⟩
abbrev cX0_plans : ByteArray := prog_2_method_5_code
def yX0_plans : MethodName := ⟨RX0, "plans", "()I"⟩
abbrev cX0_countWays : ByteArray := prog_2_method_6_code
def yX0_countWays : MethodName := ⟨RX0, "countWays", "()V"⟩
abbrev cX0_greatestWorth : ByteArray := prog_2_method_7_code
def yX0_greatestWorth : MethodName := ⟨RX0, "greatestWorth", "()I"⟩
abbrev cX0_greatestGain : ByteArray := prog_2_method_8_code
def yX0_greatestGain : MethodName := ⟨RX0, "greatestGain", "(I)I"⟩
abbrev cX0_keepFirst : ByteArray := prog_2_method_9_code
def yX0_keepFirst : MethodName := ⟨RX0, "keepFirst", "(I)V"⟩
def RX1 : String := "GoodHalfEmpty$Memory"
def TX1 : u_T := fun k => match k with
  | 0 => ("GoodHalfEmpty$Memory", "weeks", "[I", true)
  | _ => ("GoodHalfEmpty$Memory", "size", "I", false)
def tyX1 : Nat → FieldType := fun k => match k with
  | 0 => .array .int
  | _ => .int
abbrev wsX10 : List Cond := u_ws RX1 TX1 2
theorem nmX1 : ∀ a, a < 2 → ∀ b, b < 2 → a ≠ b → (TX1 a).2.1 ≠ (TX1 b).2.1 := by decide +kernel
theorem tyX1_ok : ∀ k, k < 2 → parseFieldDescriptor (TX1 k).2.2.1 = some (tyX1 k) := by decide +kernel
abbrev cX1_init : ByteArray := prog_3_method_1_code
def yX1_init : MethodName := ⟨RX1, "<init>", "()V"⟩
abbrev cX1_copyFrom : ByteArray := prog_3_method_2_code
def yX1_copyFrom : MethodName := ⟨RX1, "copyFrom", "(LGoodHalfEmpty$Memory;)V"⟩
abbrev cX1_add : ByteArray := prog_3_method_3_code
def yX1_add : MethodName := ⟨RX1, "add", "(I)V"⟩
def RX2 : String := "GoodHalfEmpty$Plans"
def TX2 : u_T := fun k => match k with
  | 0 => ("GoodHalfEmpty$Plans", "box", "LGoodHalfEmpty$Box;", true)
  | 1 => ("GoodHalfEmpty$Plans", "first", "[I", true)
  | 2 => ("GoodHalfEmpty$Plans", "sortsOfFirst", "I", false)
  | _ => ("GoodHalfEmpty$Plans", "hasFirst", "Z", false)
def tyX2 : Nat → FieldType := fun k => match k with
  | 0 => .object "GoodHalfEmpty$Box"
  | 1 => .array .int
  | 2 => .int
  | _ => .boolean
abbrev wsX20 : List Cond := u_ws RX2 TX2 4
theorem nmX2 : ∀ a, a < 4 → ∀ b, b < 4 → a ≠ b → (TX2 a).2.1 ≠ (TX2 b).2.1 := by decide +kernel
theorem tyX2_ok : ∀ k, k < 4 → parseFieldDescriptor (TX2 k).2.2.1 = some (tyX2 k) := by decide +kernel
abbrev cX2_init : ByteArray := prog_4_method_1_code
def yX2_init : MethodName := ⟨RX2, "<init>", "()V"⟩
abbrev cX2_restingPlans : ByteArray := prog_4_method_2_code
def yX2_restingPlans : MethodName := ⟨RX2, "restingPlans", "(LGoodHalfEmpty$Sorts;II)I"⟩
abbrev cX2_findFirstResting : ByteArray := prog_4_method_3_code
def yX2_findFirstResting : MethodName := ⟨RX2, "findFirstResting", "(LGoodHalfEmpty$Sorts;II)Z"⟩
abbrev cX2_bestRestingWorth : ByteArray := prog_4_method_4_code
def yX2_bestRestingWorth : MethodName := ⟨RX2, "bestRestingWorth", "(LGoodHalfEmpty$Sorts;II)I"⟩
abbrev cX2_bestWorth : ByteArray := prog_4_method_5_code
def yX2_bestWorth : MethodName := ⟨RX2, "bestWorth", "(LGoodHalfEmpty$Sorts;II)I"⟩
abbrev cX2_findFirstBest : ByteArray := prog_4_method_6_code
def yX2_findFirstBest : MethodName := ⟨RX2, "findFirstBest", "(LGoodHalfEmpty$Sorts;II)V"⟩
abbrev cX2_presentOfFirst : ByteArray := prog_4_method_7_code
def yX2_presentOfFirst : MethodName := ⟨RX2, "presentOfFirst", "()I"⟩
abbrev cX2_offerFirst : ByteArray := prog_4_method_8_code
def yX2_offerFirst : MethodName := ⟨RX2, "offerFirst", "(I)V"⟩
abbrev cX2_isBoxBeforeFirst : ByteArray := prog_4_method_9_code
def yX2_isBoxBeforeFirst : MethodName := ⟨RX2, "isBoxBeforeFirst", "()Z"⟩
abbrev cX2_beginBand : ByteArray := prog_4_method_10_code
def yX2_beginBand : MethodName := ⟨RX2, "beginBand", "(II)V"⟩
abbrev cX2_boxAll : ByteArray := prog_4_method_11_code
def yX2_boxAll : MethodName := ⟨RX2, "boxAll", "(LGoodHalfEmpty$Sorts;III)V"⟩
abbrev cX2_boxResting : ByteArray := prog_4_method_12_code
def yX2_boxResting : MethodName := ⟨RX2, "boxResting", "(LGoodHalfEmpty$Sorts;III)V"⟩
def RX3 : String := "GoodHalfEmpty$Rules"
def TX3 : u_T := fun k => match k with
  | 0 => ("GoodHalfEmpty$Rules", "kind", "[I", true)
  | 1 => ("GoodHalfEmpty$Rules", "span", "[I", true)
  | 2 => ("GoodHalfEmpty$Rules", "right", "[I", true)
  | _ => ("GoodHalfEmpty$Rules", "size", "I", false)
def tyX3 : Nat → FieldType := fun k => match k with
  | 0 => .array .int
  | 1 => .array .int
  | 2 => .array .int
  | _ => .int
abbrev wsX30 : List Cond := u_ws RX3 TX3 4
theorem nmX3 : ∀ a, a < 4 → ∀ b, b < 4 → a ≠ b → (TX3 a).2.1 ≠ (TX3 b).2.1 := by decide +kernel
theorem tyX3_ok : ∀ k, k < 4 → parseFieldDescriptor (TX3 k).2.2.1 = some (tyX3 k) := by decide +kernel
abbrev cX3_init : ByteArray := prog_5_method_1_code
def yX3_init : MethodName := ⟨RX3, "<init>", "()V"⟩
abbrev cX3_copyFrom : ByteArray := prog_5_method_2_code
def yX3_copyFrom : MethodName := ⟨RX3, "copyFrom", "(LGoodHalfEmpty$Rules;)V"⟩
abbrev cX3_has : ByteArray := prog_5_method_3_code
def yX3_has : MethodName := ⟨RX3, "has", "(I)Z"⟩
abbrev cX3_add : ByteArray := prog_5_method_4_code
def yX3_add : MethodName := ⟨RX3, "add", "(II)Z"⟩
abbrev cX3_mostRight : ByteArray := prog_5_method_5_code
def yX3_mostRight : MethodName := ⟨RX3, "mostRight", "(I)I"⟩
abbrev cX3_lengthen : ByteArray := prog_5_method_6_code
def yX3_lengthen : MethodName := ⟨RX3, "lengthen", "(I)V"⟩
def RX4 : String := "GoodHalfEmpty$Sorts"
def TX4 : u_T := fun k => match k with
  | 0 => ("GoodHalfEmpty$Sorts", "many", "[I", true)
  | 1 => ("GoodHalfEmpty$Sorts", "kind", "[I", true)
  | 2 => ("GoodHalfEmpty$Sorts", "figure", "[I", true)
  | 3 => ("GoodHalfEmpty$Sorts", "few", "[I", true)
  | 4 => ("GoodHalfEmpty$Sorts", "full", "[I", true)
  | 5 => ("GoodHalfEmpty$Sorts", "home", "[I", true)
  | _ => ("GoodHalfEmpty$Sorts", "size", "I", false)
def tyX4 : Nat → FieldType := fun k => match k with
  | 0 => .array .int
  | 1 => .array .int
  | 2 => .array .int
  | 3 => .array .int
  | 4 => .array .int
  | 5 => .array .int
  | _ => .int
abbrev wsX40 : List Cond := u_ws RX4 TX4 7
theorem nmX4 : ∀ a, a < 7 → ∀ b, b < 7 → a ≠ b → (TX4 a).2.1 ≠ (TX4 b).2.1 := by decide +kernel
theorem tyX4_ok : ∀ k, k < 7 → parseFieldDescriptor (TX4 k).2.2.1 = some (tyX4 k) := by decide +kernel
abbrev cX4_init : ByteArray := prog_6_method_1_code
def yX4_init : MethodName := ⟨RX4, "<init>", "()V"⟩
abbrev cX4_copyFrom : ByteArray := prog_6_method_2_code
def yX4_copyFrom : MethodName := ⟨RX4, "copyFrom", "(LGoodHalfEmpty$Sorts;)V"⟩
abbrev cX4_has : ByteArray := prog_6_method_3_code
def yX4_has : MethodName := ⟨RX4, "has", "(I)Z"⟩
abbrev cX4_add : ByteArray := prog_6_method_4_code
def yX4_add : MethodName := ⟨RX4, "add", "(IIIIII)Z"⟩
abbrev cX4_people : ByteArray := prog_6_method_5_code
def yX4_people : MethodName := ⟨RX4, "people", "()I"⟩
def RX5 : String := "GoodHalfEmpty$Text"
def TX5 : u_T := fun k => match k with
  | 0 => ("GoodHalfEmpty$Text", "letters", "[I", true)
  | _ => ("GoodHalfEmpty$Text", "size", "I", false)
def tyX5 : Nat → FieldType := fun k => match k with
  | 0 => .array .int
  | _ => .int
abbrev wsX50 : List Cond := u_ws RX5 TX5 2
theorem nmX5 : ∀ a, a < 2 → ∀ b, b < 2 → a ≠ b → (TX5 a).2.1 ≠ (TX5 b).2.1 := by decide +kernel
theorem tyX5_ok : ∀ k, k < 2 → parseFieldDescriptor (TX5 k).2.2.1 = some (tyX5 k) := by decide +kernel
abbrev cX5_init : ByteArray := prog_7_method_1_code
def yX5_init : MethodName := ⟨RX5, "<init>", "()V"⟩
abbrev cX5_add : ByteArray := prog_7_method_2_code
def yX5_add : MethodName := ⟨RX5, "add", "(I)I"⟩
abbrev cX5_clear : ByteArray := prog_7_method_3_code
def yX5_clear : MethodName := ⟨RX5, "clear", "()V"⟩
abbrev cX5_tellTo : ByteArray := prog_7_method_4_code
def yX5_tellTo : MethodName := ⟨RX5, "tellTo", "(LGoodHalfEmpty$Town;)I"⟩
abbrev cX5_badPlace : ByteArray := prog_7_method_5_code
def yX5_badPlace : MethodName := ⟨RX5, "badPlace", "()I"⟩
abbrev cX5_formAt : ByteArray := prog_7_method_6_code
def yX5_formAt : MethodName := ⟨RX5, "formAt", "(I)Ljava/lang/String;"⟩
abbrev cX5_numberForm : ByteArray := prog_7_method_7_code
def yX5_numberForm : MethodName := ⟨RX5, "numberForm", "(I)Ljava/lang/String;"⟩
abbrev cX5_fits : ByteArray := prog_7_method_8_code
def yX5_fits : MethodName := ⟨RX5, "fits", "(IC)Z"⟩
abbrev cX5_tellStatement : ByteArray := prog_7_method_9_code
def yX5_tellStatement : MethodName := ⟨RX5, "tellStatement", "(LGoodHalfEmpty$Town;I)Z"⟩
abbrev cX5_tellSort : ByteArray := prog_7_method_10_code
def yX5_tellSort : MethodName := ⟨RX5, "tellSort", "(LGoodHalfEmpty$Town;I)Z"⟩
abbrev cX5_letterAt : ByteArray := prog_7_method_11_code
def yX5_letterAt : MethodName := ⟨RX5, "letterAt", "(I)I"⟩
abbrev cX5_isDigit : ByteArray := prog_7_method_12_code
def yX5_isDigit : MethodName := ⟨RX5, "isDigit", "(I)Z"⟩
abbrev cX5_digitAt : ByteArray := prog_7_method_13_code
def yX5_digitAt : MethodName := ⟨RX5, "digitAt", "(I)I"⟩
abbrev cX5_numberAt : ByteArray := prog_7_method_14_code
def yX5_numberAt : MethodName := ⟨RX5, "numberAt", "(I)I"⟩
abbrev cX5_kindAt : ByteArray := prog_7_method_15_code
def yX5_kindAt : MethodName := ⟨RX5, "kindAt", "(ILjava/lang/String;)I"⟩
def RX6 : String := "GoodHalfEmpty$Town"
def TX6 : u_T := fun k => match k with
  | 0 => ("GoodHalfEmpty$Town", "sorts", "LGoodHalfEmpty$Sorts;", true)
  | 1 => ("GoodHalfEmpty$Town", "rules", "LGoodHalfEmpty$Rules;", true)
  | 2 => ("GoodHalfEmpty$Town", "memory", "LGoodHalfEmpty$Memory;", true)
  | 3 => ("GoodHalfEmpty$Town", "chairs", "I", false)
  | 4 => ("GoodHalfEmpty$Town", "penny", "I", false)
  | 5 => ("GoodHalfEmpty$Town", "number", "I", false)
  | 6 => ("GoodHalfEmpty$Town", "foretold", "[I", true)
  | 7 => ("GoodHalfEmpty$Town", "going", "[I", true)
  | _ => ("GoodHalfEmpty$Town", "present", "I", false)
def tyX6 : Nat → FieldType := fun k => match k with
  | 0 => .object "GoodHalfEmpty$Sorts"
  | 1 => .object "GoodHalfEmpty$Rules"
  | 2 => .object "GoodHalfEmpty$Memory"
  | 3 => .int
  | 4 => .int
  | 5 => .int
  | 6 => .array .int
  | 7 => .array .int
  | _ => .int
abbrev wsX60 : List Cond := u_ws RX6 TX6 9
theorem nmX6 : ∀ a, a < 9 → ∀ b, b < 9 → a ≠ b → (TX6 a).2.1 ≠ (TX6 b).2.1 := by decide +kernel
theorem tyX6_ok : ∀ k, k < 9 → parseFieldDescriptor (TX6 k).2.2.1 = some (tyX6 k) := by decide +kernel
abbrev cX6_init : ByteArray := prog_8_method_1_code
def yX6_init : MethodName := ⟨RX6, "<init>", "()V"⟩
abbrev cX6_copyFrom : ByteArray := prog_8_method_2_code
def yX6_copyFrom : MethodName := ⟨RX6, "copyFrom", "(LGoodHalfEmpty$Town;)V"⟩
abbrev cX6_setChairs : ByteArray := prog_8_method_3_code
def yX6_setChairs : MethodName := ⟨RX6, "setChairs", "(I)Z"⟩
abbrev cX6_addWeek : ByteArray := prog_8_method_4_code
def yX6_addWeek : MethodName := ⟨RX6, "addWeek", "(I)Z"⟩
abbrev cX6_mayFollow : ByteArray := prog_8_method_5_code
def yX6_mayFollow : MethodName := ⟨RX6, "mayFollow", "(II)Z"⟩
abbrev cX6_presentAgo : ByteArray := prog_8_method_6_code
def yX6_presentAgo : MethodName := ⟨RX6, "presentAgo", "(I)I"⟩
abbrev cX6_meanPresent : ByteArray := prog_8_method_7_code
def yX6_meanPresent : MethodName := ⟨RX6, "meanPresent", "(I)I"⟩
abbrev cX6_foretells : ByteArray := prog_8_method_8_code
def yX6_foretells : MethodName := ⟨RX6, "foretells", "(II)I"⟩
abbrev cX6_isRight : ByteArray := prog_8_method_9_code
def yX6_isRight : MethodName := ⟨RX6, "isRight", "(I)Z"⟩
abbrev cX6_decide : ByteArray := prog_8_method_10_code
def yX6_decide : MethodName := ⟨RX6, "decide", "()V"⟩
abbrev cX6_askRules : ByteArray := prog_8_method_11_code
def yX6_askRules : MethodName := ⟨RX6, "askRules", "()V"⟩
abbrev cX6_askSorts : ByteArray := prog_8_method_12_code
def yX6_askSorts : MethodName := ⟨RX6, "askSorts", "()V"⟩
abbrev cX6_settle : ByteArray := prog_8_method_13_code
def yX6_settle : MethodName := ⟨RX6, "settle", "(IZ)V"⟩
abbrev cX6_wantsToGo : ByteArray := prog_8_method_14_code
def yX6_wantsToGo : MethodName := ⟨RX6, "wantsToGo", "(I)Z"⟩
abbrev cX6_goBy : ByteArray := prog_8_method_15_code
def yX6_goBy : MethodName := ⟨RX6, "goBy", "()I"⟩
abbrev cX6_worthToOne : ByteArray := prog_8_method_16_code
def yX6_worthToOne : MethodName := ⟨RX6, "worthToOne", "(I)I"⟩
abbrev cX6_worthToAll : ByteArray := prog_8_method_17_code
def yX6_worthToAll : MethodName := ⟨RX6, "worthToAll", "()I"⟩
abbrev cX6_drawMemory : ByteArray := prog_8_method_18_code
def yX6_drawMemory : MethodName := ⟨RX6, "drawMemory", "(I)I"⟩
def RX7 : String := "GoodHalfEmpty"
def TX7 : u_T := fun k => match k with
  | 0 => ("GoodHalfEmpty", "town", "LGoodHalfEmpty$Town;", true)
  | 1 => ("GoodHalfEmpty", "mind", "LGoodHalfEmpty$Town;", true)
  | 2 => ("GoodHalfEmpty", "kept", "LGoodHalfEmpty$Town;", true)
  | 3 => ("GoodHalfEmpty", "isKept", "Z", false)
  | 4 => ("GoodHalfEmpty", "text", "LGoodHalfEmpty$Text;", true)
  | 5 => ("GoodHalfEmpty", "plans", "LGoodHalfEmpty$Plans;", true)
  | 6 => ("GoodHalfEmpty", "ahead", "[I", true)
  | 7 => ("GoodHalfEmpty", "tally", "[I", true)
  | 8 => ("GoodHalfEmpty", "told", "[I", true)
  | 9 => ("GoodHalfEmpty", "toldSize", "I", false)
  | _ => ("GoodHalfEmpty", "refusals", "[I", true)
def tyX7 : Nat → FieldType := fun k => match k with
  | 0 => .object "GoodHalfEmpty$Town"
  | 1 => .object "GoodHalfEmpty$Town"
  | 2 => .object "GoodHalfEmpty$Town"
  | 3 => .boolean
  | 4 => .object "GoodHalfEmpty$Text"
  | 5 => .object "GoodHalfEmpty$Plans"
  | 6 => .array .int
  | 7 => .array .int
  | 8 => .array .int
  | 9 => .int
  | _ => .array .int
abbrev wsX70 : List Cond := u_ws RX7 TX7 11
theorem nmX7 : ∀ a, a < 11 → ∀ b, b < 11 → a ≠ b → (TX7 a).2.1 ≠ (TX7 b).2.1 := by decide +kernel
theorem tyX7_ok : ∀ k, k < 11 → parseFieldDescriptor (TX7 k).2.2.1 = some (tyX7 k) := by decide +kernel
abbrev cX7_init : ByteArray := prog_1_method_1_code
def yX7_init : MethodName := ⟨RX7, "<init>", "()V"⟩
abbrev cX7_letter : ByteArray := prog_1_method_2_code
def yX7_letter : MethodName := ⟨RX7, "letter", "(I)I"⟩
abbrev cX7_town : ByteArray := prog_1_method_3_code
def yX7_town : MethodName := ⟨RX7, "town", "()I"⟩
abbrev cX7_sort : ByteArray := prog_1_method_4_code
def yX7_sort : MethodName := ⟨RX7, "sort", "(II)I"⟩
abbrev cX7_rule : ByteArray := prog_1_method_5_code
def yX7_rule : MethodName := ⟨RX7, "rule", "(II)I"⟩
abbrev cX7_remembered : ByteArray := prog_1_method_6_code
def yX7_remembered : MethodName := ⟨RX7, "remembered", "(I)I"⟩
abbrev cX7_penny : ByteArray := prog_1_method_7_code
def yX7_penny : MethodName := ⟨RX7, "penny", "(I)I"⟩
abbrev cX7_week : ByteArray := prog_1_method_8_code
def yX7_week : MethodName := ⟨RX7, "week", "()I"⟩
abbrev cX7_next : ByteArray := prog_1_method_9_code
def yX7_next : MethodName := ⟨RX7, "next", "()I"⟩
abbrev cX7_goes : ByteArray := prog_1_method_10_code
def yX7_goes : MethodName := ⟨RX7, "goes", "(I)I"⟩
abbrev cX7_worth : ByteArray := prog_1_method_11_code
def yX7_worth : MethodName := ⟨RX7, "worth", "(I)I"⟩
abbrev cX7_after : ByteArray := prog_1_method_12_code
def yX7_after : MethodName := ⟨RX7, "after", "(I)I"⟩
abbrev cX7_mean : ByteArray := prog_1_method_13_code
def yX7_mean : MethodName := ⟨RX7, "mean", "(I)I"⟩
abbrev cX7_swing : ByteArray := prog_1_method_14_code
def yX7_swing : MethodName := ⟨RX7, "swing", "(I)I"⟩
abbrev cX7_good : ByteArray := prog_1_method_15_code
def yX7_good : MethodName := ⟨RX7, "good", "(I)I"⟩
abbrev cX7_again : ByteArray := prog_1_method_16_code
def yX7_again : MethodName := ⟨RX7, "again", "()I"⟩
abbrev cX7_gains : ByteArray := prog_1_method_17_code
def yX7_gains : MethodName := ⟨RX7, "gains", "(II)I"⟩
abbrev cX7_rests : ByteArray := prog_1_method_18_code
def yX7_rests : MethodName := ⟨RX7, "rests", "()I"⟩
abbrev cX7_rest : ByteArray := prog_1_method_19_code
def yX7_rest : MethodName := ⟨RX7, "rest", "(I)I"⟩
abbrev cX7_best : ByteArray := prog_1_method_20_code
def yX7_best : MethodName := ⟨RX7, "best", "(I)I"⟩
abbrev cX7_off : ByteArray := prog_1_method_21_code
def yX7_off : MethodName := ⟨RX7, "off", "()I"⟩
abbrev cX7_pennies : ByteArray := prog_1_method_22_code
def yX7_pennies : MethodName := ⟨RX7, "pennies", "()I"⟩
abbrev cX7_chairs : ByteArray := prog_1_method_23_code
def yX7_chairs : MethodName := ⟨RX7, "chairs", "()I"⟩
abbrev cX7_sees : ByteArray := prog_1_method_24_code
def yX7_sees : MethodName := ⟨RX7, "sees", "(IIII)I"⟩
abbrev cX7_which : ByteArray := prog_1_method_25_code
def yX7_which : MethodName := ⟨RX7, "which", "(I)I"⟩
abbrev cX7_longer : ByteArray := prog_1_method_26_code
def yX7_longer : MethodName := ⟨RX7, "longer", "(I)I"⟩
abbrev cX7_seeds : ByteArray := prog_1_method_27_code
def yX7_seeds : MethodName := ⟨RX7, "seeds", "(II)I"⟩
abbrev cX7_row : ByteArray := prog_1_method_28_code
def yX7_row : MethodName := ⟨RX7, "row", "(I)I"⟩
abbrev cX7_judge : ByteArray := prog_1_method_29_code
def yX7_judge : MethodName := ⟨RX7, "judge", "()I"⟩
abbrev cX7_image : ByteArray := prog_1_method_30_code
def yX7_image : MethodName := ⟨RX7, "image", "()I"⟩
abbrev cX7_on : ByteArray := prog_1_method_31_code
def yX7_on : MethodName := ⟨RX7, "on", "()I"⟩
abbrev cX7_count : ByteArray := prog_1_method_32_code
def yX7_count : MethodName := ⟨RX7, "count", "(I)I"⟩
abbrev cX7_refuse : ByteArray := prog_1_method_33_code
def yX7_refuse : MethodName := ⟨RX7, "refuse", "(I)I"⟩
abbrev cX7_refuseWorth : ByteArray := prog_1_method_34_code
def yX7_refuseWorth : MethodName := ⟨RX7, "refuseWorth", "(I)I"⟩
abbrev cX7_lookAhead : ByteArray := prog_1_method_35_code
def yX7_lookAhead : MethodName := ⟨RX7, "lookAhead", "(II)V"⟩
abbrev cX7_swingOf : ByteArray := prog_1_method_36_code
def yX7_swingOf : MethodName := ⟨RX7, "swingOf", "(I)I"⟩
abbrev cX7_comesAgainAfter : ByteArray := prog_1_method_37_code
def yX7_comesAgainAfter : MethodName := ⟨RX7, "comesAgainAfter", "(I)Z"⟩
abbrev cX7_gainsInMind : ByteArray := prog_1_method_38_code
def yX7_gainsInMind : MethodName := ⟨RX7, "gainsInMind", "(II)I"⟩
abbrev cX7_tallyRight : ByteArray := prog_1_method_39_code
def yX7_tallyRight : MethodName := ⟨RX7, "tallyRight", "(I)V"⟩
abbrev cX7_outside : ByteArray := prog_1_method_40_code
def yX7_outside : MethodName := ⟨RX7, "outside", "(III)I"⟩
abbrev cX7_at : ByteArray := prog_1_method_41_code
def yX7_at : MethodName := ⟨RX7, "at", "([II)I"⟩
abbrev cX7_put : ByteArray := prog_1_method_42_code
def yX7_put : MethodName := ⟨RX7, "put", "([III)V"⟩
abbrev cX7_copyRow : ByteArray := prog_1_method_43_code
def yX7_copyRow : MethodName := ⟨RX7, "copyRow", "([I[I)V"⟩
abbrev cX7_quotient : ByteArray := prog_1_method_44_code
def yX7_quotient : MethodName := ⟨RX7, "quotient", "(II)I"⟩
abbrev cX7_remainder : ByteArray := prog_1_method_45_code
def yX7_remainder : MethodName := ⟨RX7, "remainder", "(II)I"⟩
def RX8 : String := "GoodHalfEmptyModel"
def TX8 : u_T := fun k => match k with
  | 0 => ("GoodHalfEmptyModel", "refused", "[I", true)
  | 1 => ("GoodHalfEmptyModel", "now", "[I", true)
  | 2 => ("GoodHalfEmptyModel", "then", "[I", true)
  | 3 => ("GoodHalfEmptyModel", "mind", "[I", true)
  | 4 => ("GoodHalfEmptyModel", "kept", "Z", false)
  | 5 => ("GoodHalfEmptyModel", "tape", "[I", true)
  | 6 => ("GoodHalfEmptyModel", "taped", "I", false)
  | 7 => ("GoodHalfEmptyModel", "at", "I", false)
  | 8 => ("GoodHalfEmptyModel", "well", "Z", false)
  | 9 => ("GoodHalfEmptyModel", "begins", "[C", true)
  | 10 => ("GoodHalfEmptyModel", "goers", "[C", true)
  | 11 => ("GoodHalfEmptyModel", "rulers", "[C", true)
  | 12 => ("GoodHalfEmptyModel", "sort", "I", false)
  | 13 => ("GoodHalfEmptyModel", "field", "[I", true)
  | 14 => ("GoodHalfEmptyModel", "go", "[Z", true)
  | 15 => ("GoodHalfEmptyModel", "ahead", "[I", true)
  | 16 => ("GoodHalfEmptyModel", "plan", "[I", true)
  | 17 => ("GoodHalfEmptyModel", "firstRest", "[I", true)
  | 18 => ("GoodHalfEmptyModel", "rests", "I", false)
  | 19 => ("GoodHalfEmptyModel", "restWorth", "I", false)
  | 20 => ("GoodHalfEmptyModel", "restPresent", "I", false)
  | 21 => ("GoodHalfEmptyModel", "bestWorth", "I", false)
  | 22 => ("GoodHalfEmptyModel", "bestPresent", "I", false)
  | 23 => ("GoodHalfEmptyModel", "plans", "I", false)
  | 24 => ("GoodHalfEmptyModel", "before", "[I", true)
  | 25 => ("GoodHalfEmptyModel", "row", "[I", true)
  | _ => ("GoodHalfEmptyModel", "rows", "I", false)
def tyX8 : Nat → FieldType := fun k => match k with
  | 0 => .array .int
  | 1 => .array .int
  | 2 => .array .int
  | 3 => .array .int
  | 4 => .boolean
  | 5 => .array .int
  | 6 => .int
  | 7 => .int
  | 8 => .boolean
  | 9 => .array .char
  | 10 => .array .char
  | 11 => .array .char
  | 12 => .int
  | 13 => .array .int
  | 14 => .array .boolean
  | 15 => .array .int
  | 16 => .array .int
  | 17 => .array .int
  | 18 => .int
  | 19 => .int
  | 20 => .int
  | 21 => .int
  | 22 => .int
  | 23 => .int
  | 24 => .array .int
  | 25 => .array .int
  | _ => .int
abbrev wsX80 : List Cond := u_ws RX8 TX8 27
theorem nmX8 : ∀ a, a < 27 → ∀ b, b < 27 → a ≠ b → (TX8 a).2.1 ≠ (TX8 b).2.1 := by decide +kernel
theorem tyX8_ok : ∀ k, k < 27 → parseFieldDescriptor (TX8 k).2.2.1 = some (tyX8 k) := by decide +kernel
abbrev cX8_no : ByteArray := prog_10_method_1_code
def yX8_no : MethodName := ⟨RX8, "no", "(I)I"⟩
abbrev cX8_move : ByteArray := prog_10_method_2_code
def yX8_move : MethodName := ⟨RX8, "move", "([I[I)V"⟩
abbrev cX8_image : ByteArray := prog_10_method_3_code
def yX8_image : MethodName := ⟨RX8, "image", "()I"⟩
abbrev cX8_on : ByteArray := prog_10_method_4_code
def yX8_on : MethodName := ⟨RX8, "on", "()I"⟩
abbrev cX8_init : ByteArray := prog_10_method_5_code
def yX8_init : MethodName := ⟨RX8, "<init>", "()V"⟩
abbrev cX8_of : ByteArray := prog_10_method_6_code
def yX8_of : MethodName := ⟨RX8, "of", "(II)I"⟩
abbrev cX8_people : ByteArray := prog_10_method_7_code
def yX8_people : MethodName := ⟨RX8, "people", "()I"⟩
abbrev cX8_letter : ByteArray := prog_10_method_8_code
def yX8_letter : MethodName := ⟨RX8, "letter", "(I)I"⟩
abbrev cX8_expect : ByteArray := prog_10_method_9_code
def yX8_expect : MethodName := ⟨RX8, "expect", "(C)V"⟩
abbrev cX8_oneOf : ByteArray := prog_10_method_10_code
def yX8_oneOf : MethodName := ⟨RX8, "oneOf", "([C)I"⟩
abbrev cX8_figures : ByteArray := prog_10_method_11_code
def yX8_figures : MethodName := ⟨RX8, "figures", "(I)I"⟩
abbrev cX8_statement : ByteArray := prog_10_method_12_code
def yX8_statement : MethodName := ⟨RX8, "statement", "()V"⟩
abbrev cX8_isAsItMustBe : ByteArray := prog_10_method_13_code
def yX8_isAsItMustBe : MethodName := ⟨RX8, "isAsItMustBe", "(II)Z"⟩
abbrev cX8_remember : ByteArray := prog_10_method_14_code
def yX8_remember : MethodName := ⟨RX8, "remember", "(I)V"⟩
abbrev cX8_come : ByteArray := prog_10_method_15_code
def yX8_come : MethodName := ⟨RX8, "come", "()V"⟩
abbrev cX8_read : ByteArray := prog_10_method_16_code
def yX8_read : MethodName := ⟨RX8, "read", "()I"⟩
abbrev cX8_town : ByteArray := prog_10_method_17_code
def yX8_town : MethodName := ⟨RX8, "town", "()I"⟩
abbrev cX8_ago : ByteArray := prog_10_method_18_code
def yX8_ago : MethodName := ⟨RX8, "ago", "(I)I"⟩
abbrev cX8_foretold : ByteArray := prog_10_method_19_code
def yX8_foretold : MethodName := ⟨RX8, "foretold", "(II)I"⟩
abbrev cX8_isRoom : ByteArray := prog_10_method_20_code
def yX8_isRoom : MethodName := ⟨RX8, "isRoom", "(I)Z"⟩
abbrev cX8_hat : ByteArray := prog_10_method_21_code
def yX8_hat : MethodName := ⟨RX8, "hat", "(I)I"⟩
abbrev cX8_present : ByteArray := prog_10_method_22_code
def yX8_present : MethodName := ⟨RX8, "present", "()I"⟩
abbrev cX8_worthGone : ByteArray := prog_10_method_23_code
def yX8_worthGone : MethodName := ⟨RX8, "worthGone", "(II)I"⟩
abbrev cX8_worthNext : ByteArray := prog_10_method_24_code
def yX8_worthNext : MethodName := ⟨RX8, "worthNext", "(II)I"⟩
abbrev cX8_goOn : ByteArray := prog_10_method_25_code
def yX8_goOn : MethodName := ⟨RX8, "goOn", "()I"⟩
abbrev cX8_isNoSort : ByteArray := prog_10_method_26_code
def yX8_isNoSort : MethodName := ⟨RX8, "isNoSort", "(I)Z"⟩
abbrev cX8_sort : ByteArray := prog_10_method_27_code
def yX8_sort : MethodName := ⟨RX8, "sort", "(II)I"⟩
abbrev cX8_rule : ByteArray := prog_10_method_28_code
def yX8_rule : MethodName := ⟨RX8, "rule", "(II)I"⟩
abbrev cX8_remembered : ByteArray := prog_10_method_29_code
def yX8_remembered : MethodName := ⟨RX8, "remembered", "(I)I"⟩
abbrev cX8_penny : ByteArray := prog_10_method_30_code
def yX8_penny : MethodName := ⟨RX8, "penny", "(I)I"⟩
abbrev cX8_week : ByteArray := prog_10_method_31_code
def yX8_week : MethodName := ⟨RX8, "week", "()I"⟩
abbrev cX8_next : ByteArray := prog_10_method_32_code
def yX8_next : MethodName := ⟨RX8, "next", "()I"⟩
abbrev cX8_goes : ByteArray := prog_10_method_33_code
def yX8_goes : MethodName := ⟨RX8, "goes", "(I)I"⟩
abbrev cX8_worth : ByteArray := prog_10_method_34_code
def yX8_worth : MethodName := ⟨RX8, "worth", "(I)I"⟩
abbrev cX8_isWrong : ByteArray := prog_10_method_35_code
def yX8_isWrong : MethodName := ⟨RX8, "isWrong", "(II)I"⟩
abbrev cX8_goAhead : ByteArray := prog_10_method_36_code
def yX8_goAhead : MethodName := ⟨RX8, "goAhead", "(II)I"⟩
abbrev cX8_swungIn : ByteArray := prog_10_method_37_code
def yX8_swungIn : MethodName := ⟨RX8, "swungIn", "(I)I"⟩
abbrev cX8_after : ByteArray := prog_10_method_38_code
def yX8_after : MethodName := ⟨RX8, "after", "(I)I"⟩
abbrev cX8_mean : ByteArray := prog_10_method_39_code
def yX8_mean : MethodName := ⟨RX8, "mean", "(I)I"⟩
abbrev cX8_swing : ByteArray := prog_10_method_40_code
def yX8_swing : MethodName := ⟨RX8, "swing", "(I)I"⟩
abbrev cX8_good : ByteArray := prog_10_method_41_code
def yX8_good : MethodName := ⟨RX8, "good", "(I)I"⟩
abbrev cX8_again : ByteArray := prog_10_method_42_code
def yX8_again : MethodName := ⟨RX8, "again", "()I"⟩
abbrev cX8_gains : ByteArray := prog_10_method_43_code
def yX8_gains : MethodName := ⟨RX8, "gains", "(II)I"⟩
abbrev cX8_begin : ByteArray := prog_10_method_44_code
def yX8_begin : MethodName := ⟨RX8, "begin", "()V"⟩
abbrev cX8_isNextPlan : ByteArray := prog_10_method_45_code
def yX8_isNextPlan : MethodName := ⟨RX8, "isNextPlan", "()Z"⟩
abbrev cX8_isAtRest : ByteArray := prog_10_method_46_code
def yX8_isAtRest : MethodName := ⟨RX8, "isAtRest", "(I)Z"⟩
abbrev cX8_goThrough : ByteArray := prog_10_method_47_code
def yX8_goThrough : MethodName := ⟨RX8, "goThrough", "()V"⟩
abbrev cX8_rests : ByteArray := prog_10_method_48_code
def yX8_rests : MethodName := ⟨RX8, "rests", "()I"⟩
abbrev cX8_rest : ByteArray := prog_10_method_49_code
def yX8_rest : MethodName := ⟨RX8, "rest", "(I)I"⟩
abbrev cX8_best : ByteArray := prog_10_method_50_code
def yX8_best : MethodName := ⟨RX8, "best", "(I)I"⟩
abbrev cX8_off : ByteArray := prog_10_method_51_code
def yX8_off : MethodName := ⟨RX8, "off", "()I"⟩
abbrev cX8_pennies : ByteArray := prog_10_method_52_code
def yX8_pennies : MethodName := ⟨RX8, "pennies", "()I"⟩
abbrev cX8_chairs : ByteArray := prog_10_method_53_code
def yX8_chairs : MethodName := ⟨RX8, "chairs", "()I"⟩
abbrev cX8_sees : ByteArray := prog_10_method_54_code
def yX8_sees : MethodName := ⟨RX8, "sees", "(IIII)I"⟩
abbrev cX8_which : ByteArray := prog_10_method_55_code
def yX8_which : MethodName := ⟨RX8, "which", "(I)I"⟩
abbrev cX8_longer : ByteArray := prog_10_method_56_code
def yX8_longer : MethodName := ⟨RX8, "longer", "(I)I"⟩
abbrev cX8_seeds : ByteArray := prog_10_method_57_code
def yX8_seeds : MethodName := ⟨RX8, "seeds", "(II)I"⟩
abbrev cX8_row : ByteArray := prog_10_method_58_code
def yX8_row : MethodName := ⟨RX8, "row", "(I)I"⟩
abbrev cX8_judge : ByteArray := prog_10_method_59_code
def yX8_judge : MethodName := ⟨RX8, "judge", "()I"⟩
abbrev cX8_count : ByteArray := prog_10_method_60_code
def yX8_count : MethodName := ⟨RX8, "count", "(I)I"⟩
def RJ11 : String := "java/lang/Character"
def TJ11 : u_T := fun k => match k with
  | _ => ("", "", "", false)
def tyJ11 : Nat → FieldType := fun k => match k with
  | _ => .int
abbrev wsJ110 : List Cond := u_ws RJ11 TJ11 0
theorem nmJ11 : ∀ a, a < 0 → ∀ b, b < 0 → a ≠ b → (TJ11 a).2.1 ≠ (TJ11 b).2.1 := by decide +kernel
theorem tyJ11_ok : ∀ k, k < 0 → parseFieldDescriptor (TJ11 k).2.2.1 = some (tyJ11 k) := by decide +kernel
abbrev cJ11_isValidCodePoint_9a6ad : ByteArray := prog_11_method_11_code
def yJ11_isValidCodePoint_9a6ad : MethodName := ⟨RJ11, "isValidCodePoint", "(I)Z"⟩
abbrev cJ11_highSurrogate_5068e : ByteArray := prog_11_method_28_code
def yJ11_highSurrogate_5068e : MethodName := ⟨RJ11, "highSurrogate", "(I)C"⟩
abbrev cJ11_lowSurrogate_5068e : ByteArray := prog_11_method_29_code
def yJ11_lowSurrogate_5068e : MethodName := ⟨RJ11, "lowSurrogate", "(I)C"⟩
def RJ9 : String := "java/lang/Math"
def TJ9 : u_T := fun k => match k with
  | _ => ("", "", "", false)
def tyJ9 : Nat → FieldType := fun k => match k with
  | _ => .int
abbrev wsJ90 : List Cond := u_ws RJ9 TJ9 0
theorem nmJ9 : ∀ a, a < 0 → ∀ b, b < 0 → a ≠ b → (TJ9 a).2.1 ≠ (TJ9 b).2.1 := by decide +kernel
theorem tyJ9_ok : ∀ k, k < 0 → parseFieldDescriptor (TJ9 k).2.2.1 = some (tyJ9 k) := by decide +kernel
abbrev cJ9_max_7cf53 : ByteArray := prog_12_method_65_code
def yJ9_max_7cf53 : MethodName := ⟨RJ9, "max", "(II)I"⟩
abbrev cJ9_min_7cf53 : ByteArray := prog_12_method_69_code
def yJ9_min_7cf53 : MethodName := ⟨RJ9, "min", "(II)I"⟩
def RJ0 : String := "java/lang/String"
def TJ0 : u_T := fun k => match k with
  | _ => ("", "", "", false)
def tyJ0 : Nat → FieldType := fun k => match k with
  | _ => .int
abbrev wsJ00 : List Cond := u_ws RJ0 TJ0 0
theorem nmJ0 : ∀ a, a < 0 → ∀ b, b < 0 → a ≠ b → (TJ0 a).2.1 ≠ (TJ0 b).2.1 := by decide +kernel
theorem tyJ0_ok : ∀ k, k < 0 → parseFieldDescriptor (TJ0 k).2.2.1 = some (tyJ0 k) := by decide +kernel
abbrev cJ0_length_8abf5 : ByteArray := prog_13_method_54_code
def yJ0_length_8abf5 : MethodName := ⟨RJ0, "length", "()I"⟩
abbrev cJ0_isEmpty_aae02 : ByteArray := prog_13_method_55_code
def yJ0_isEmpty_aae02 : MethodName := ⟨RJ0, "isEmpty", "()Z"⟩
abbrev cJ0_charAt_5068e : ByteArray := prog_13_method_56_code
def yJ0_charAt_5068e : MethodName := ⟨RJ0, "charAt", "(I)C"⟩
abbrev cJ0_indexOf_0f7a4 : ByteArray := prog_13_method_79_code
def yJ0_indexOf_0f7a4 : MethodName := ⟨RJ0, "indexOf", "(I)I"⟩
abbrev cJ0_indexOf_7cf53 : ByteArray := prog_13_method_80_code
def yJ0_indexOf_7cf53 : MethodName := ⟨RJ0, "indexOf", "(II)I"⟩
abbrev cJ0_coder_7d493 : ByteArray := prog_13_method_152_code
def yJ0_coder_7d493 : MethodName := ⟨RJ0, "coder", "()B"⟩
abbrev cJ0_isLatin1_aae02 : ByteArray := prog_13_method_154_code
def yJ0_isLatin1_aae02 : MethodName := ⟨RJ0, "isLatin1", "()Z"⟩
abbrev cJ0_checkIndex_df160 : ByteArray := prog_13_method_155_code
def yJ0_checkIndex_df160 : MethodName := ⟨RJ0, "checkIndex", "(II)V"⟩
abbrev cJ0_checkBoundsBeginEnd_23922 : ByteArray := prog_13_method_158_code
def yJ0_checkBoundsBeginEnd_23922 : MethodName := ⟨RJ0, "checkBoundsBeginEnd", "(III)V"⟩
def RJ1 : String := "java/lang/StringLatin1"
def TJ1 : u_T := fun k => match k with
  | _ => ("", "", "", false)
def tyJ1 : Nat → FieldType := fun k => match k with
  | _ => .int
abbrev wsJ10 : List Cond := u_ws RJ1 TJ1 0
theorem nmJ1 : ∀ a, a < 0 → ∀ b, b < 0 → a ≠ b → (TJ1 a).2.1 ≠ (TJ1 b).2.1 := by decide +kernel
theorem tyJ1_ok : ∀ k, k < 0 → parseFieldDescriptor (TJ1 k).2.2.1 = some (tyJ1 k) := by decide +kernel
abbrev cJ1_charAt_3b067 : ByteArray := prog_14_method_2_code
def yJ1_charAt_3b067 : MethodName := ⟨RJ1, "charAt", "([BI)C"⟩
abbrev cJ1_canEncode_9a6ad : ByteArray := prog_14_method_4_code
def yJ1_canEncode_9a6ad : MethodName := ⟨RJ1, "canEncode", "(I)Z"⟩
abbrev cJ1_indexOf_4cfef : ByteArray := prog_14_method_22_code
def yJ1_indexOf_4cfef : MethodName := ⟨RJ1, "indexOf", "([BIII)I"⟩
abbrev cJ1_indexOfChar_4cfef : ByteArray := prog_14_method_23_code
def yJ1_indexOfChar_4cfef : MethodName := ⟨RJ1, "indexOfChar", "([BIII)I"⟩
def RJ2 : String := "java/lang/StringUTF16"
def TJ2 : u_T := fun k => match k with
  | _ => ("", "", "", false)
def tyJ2 : Nat → FieldType := fun k => match k with
  | _ => .int
abbrev wsJ20 : List Cond := u_ws RJ2 TJ2 0
theorem nmJ2 : ∀ a, a < 0 → ∀ b, b < 0 → a ≠ b → (TJ2 a).2.1 ≠ (TJ2 b).2.1 := by decide +kernel
theorem tyJ2_ok : ∀ k, k < 0 → parseFieldDescriptor (TJ2 k).2.2.1 = some (tyJ2 k) := by decide +kernel
abbrev cJ2_getChar_3b067 : ByteArray := prog_15_method_5_code
def yJ2_getChar_3b067 : MethodName := ⟨RJ2, "getChar", "([BI)C"⟩
abbrev cJ2_length_9d52b : ByteArray := prog_15_method_6_code
def yJ2_length_9d52b : MethodName := ⟨RJ2, "length", "([B)I"⟩
abbrev cJ2_indexOf_4cfef : ByteArray := prog_15_method_40_code
def yJ2_indexOf_4cfef : MethodName := ⟨RJ2, "indexOf", "([BIII)I"⟩
abbrev cJ2_indexOfChar_4cfef : ByteArray := prog_15_method_47_code
def yJ2_indexOfChar_4cfef : MethodName := ⟨RJ2, "indexOfChar", "([BIII)I"⟩
abbrev cJ2_indexOfCharUnsafe_4cfef : ByteArray := prog_15_method_48_code
def yJ2_indexOfCharUnsafe_4cfef : MethodName := ⟨RJ2, "indexOfCharUnsafe", "([BIII)I"⟩
abbrev cJ2_indexOfSupplementary_4cfef : ByteArray := prog_15_method_49_code
def yJ2_indexOfSupplementary_4cfef : MethodName := ⟨RJ2, "indexOfSupplementary", "([BIII)I"⟩
abbrev cJ2_charAt_3b067 : ByteArray := prog_15_method_83_code
def yJ2_charAt_3b067 : MethodName := ⟨RJ2, "charAt", "([BI)C"⟩
abbrev cJ2_checkIndex_2214a : ByteArray := prog_15_method_91_code
def yJ2_checkIndex_2214a : MethodName := ⟨RJ2, "checkIndex", "(I[B)V"⟩
abbrev cJ2_checkBoundsBeginEnd_d044e : ByteArray := prog_15_method_93_code
def yJ2_checkBoundsBeginEnd_d044e : MethodName := ⟨RJ2, "checkBoundsBeginEnd", "(II[B)V"⟩
def RJ3 : String := "jdk/internal/util/Preconditions"
def TJ3 : u_T := fun k => match k with
  | _ => ("", "", "", false)
def tyJ3 : Nat → FieldType := fun k => match k with
  | _ => .int
abbrev wsJ30 : List Cond := u_ws RJ3 TJ3 0
theorem nmJ3 : ∀ a, a < 0 → ∀ b, b < 0 → a ≠ b → (TJ3 a).2.1 ≠ (TJ3 b).2.1 := by decide +kernel
theorem tyJ3_ok : ∀ k, k < 0 → parseFieldDescriptor (TJ3 k).2.2.1 = some (tyJ3 k) := by decide +kernel
abbrev cJ3_checkIndex_8e157 : ByteArray := prog_16_method_11_code
def yJ3_checkIndex_8e157 : MethodName := ⟨RJ3, "checkIndex", "(IILjava/util/function/BiFunction;)I"⟩
abbrev cJ3_checkFromToIndex_8c36e : ByteArray := prog_16_method_12_code
def yJ3_checkFromToIndex_8c36e : MethodName := ⟨RJ3, "checkFromToIndex", "(IIILjava/util/function/BiFunction;)I"⟩
def RL : String := "GoodHalfEmptyLaw"
abbrev cL_law : ByteArray := code
def yL_law : MethodName := ⟨RL, "law", "([I)Z"⟩
abbrev vwCl : List vw_C := [(RX0, TX0, 8), (RX1, TX1, 2), (RX2, TX2, 4), (RX3, TX3, 4), (RX4, TX4, 7), (RX5, TX5, 2), (RX6, TX6, 9), (RX7, TX7, 11), (RX8, TX8, 27)]
