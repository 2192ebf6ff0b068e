section
-- ===== PART A: goes FIRST, ahead of the names: the tables' words, and 'selects' of the private methods out of them =====
/-- a private method of a class that the tables say can be made, by its rows of tables_1 -/
def lw_okq (q : MethodName × Nat) : Prop := (q.1.cls ≠ "java/lang/invoke/MethodHandle" ∧ q.1.cls ≠ "java/lang/invoke/VarHandle") ∧ Cond.instantiable q.1.cls q.2 ∈ tables_1 ∧ Cond.privateMethod q.1 ∈ tables_1 ∧ Cond.instanceMethod q.1 ∈ tables_1
theorem lw_p0 : lw_okq (⟨"CostsAge$Reader", "append", "(I)Z"⟩, 8) := ⟨⟨by decide +kernel, by decide +kernel⟩, List.mem_of_getElem? (i := 36) (by decide +kernel), List.mem_of_getElem? (i := 301) (by decide +kernel), List.mem_of_getElem? (i := 302) (by decide +kernel)⟩
theorem lw_p1 : lw_okq (⟨"CostsAge$Reader", "compile", "(LCostsAge$Text;)I"⟩, 8) := ⟨⟨by decide +kernel, by decide +kernel⟩, List.mem_of_getElem? (i := 36) (by decide +kernel), List.mem_of_getElem? (i := 305) (by decide +kernel), List.mem_of_getElem? (i := 306) (by decide +kernel)⟩
theorem lw_p2 : lw_okq (⟨"CostsAge$Reader", "advance", "()V"⟩, 8) := ⟨⟨by decide +kernel, by decide +kernel⟩, List.mem_of_getElem? (i := 36) (by decide +kernel), List.mem_of_getElem? (i := 309) (by decide +kernel), List.mem_of_getElem? (i := 310) (by decide +kernel)⟩
theorem lw_p3 : lw_okq (⟨"CostsAge$Reader", "takeWord", "()V"⟩, 8) := ⟨⟨by decide +kernel, by decide +kernel⟩, List.mem_of_getElem? (i := 36) (by decide +kernel), List.mem_of_getElem? (i := 316) (by decide +kernel), List.mem_of_getElem? (i := 317) (by decide +kernel)⟩
theorem lw_p4 : lw_okq (⟨"CostsAge$Reader", "stands", "(Ljava/lang/String;)Z"⟩, 8) := ⟨⟨by decide +kernel, by decide +kernel⟩, List.mem_of_getElem? (i := 36) (by decide +kernel), List.mem_of_getElem? (i := 321) (by decide +kernel), List.mem_of_getElem? (i := 322) (by decide +kernel)⟩
theorem lw_p5 : lw_okq (⟨"CostsAge$Reader", "takeNumber", "()V"⟩, 8) := ⟨⟨by decide +kernel, by decide +kernel⟩, List.mem_of_getElem? (i := 36) (by decide +kernel), List.mem_of_getElem? (i := 341) (by decide +kernel), List.mem_of_getElem? (i := 342) (by decide +kernel)⟩
theorem lw_p6 : lw_okq (⟨"CostsAge$Reader", "readPart", "(I[I)I"⟩, 8) := ⟨⟨by decide +kernel, by decide +kernel⟩, List.mem_of_getElem? (i := 36) (by decide +kernel), List.mem_of_getElem? (i := 348) (by decide +kernel), List.mem_of_getElem? (i := 349) (by decide +kernel)⟩
theorem lw_p7 : lw_okq (⟨"CostsAge$Reader", "expect", "(I)V"⟩, 8) := ⟨⟨by decide +kernel, by decide +kernel⟩, List.mem_of_getElem? (i := 36) (by decide +kernel), List.mem_of_getElem? (i := 352) (by decide +kernel), List.mem_of_getElem? (i := 353) (by decide +kernel)⟩
theorem lw_p8 : lw_okq (⟨"CostsAge$Reader", "refuse", "()V"⟩, 8) := ⟨⟨by decide +kernel, by decide +kernel⟩, List.mem_of_getElem? (i := 36) (by decide +kernel), List.mem_of_getElem? (i := 356) (by decide +kernel), List.mem_of_getElem? (i := 357) (by decide +kernel)⟩
theorem lw_p9 : lw_okq (⟨"CostsAge$Reader", "readE", "([II)V"⟩, 8) := ⟨⟨by decide +kernel, by decide +kernel⟩, List.mem_of_getElem? (i := 36) (by decide +kernel), List.mem_of_getElem? (i := 360) (by decide +kernel), List.mem_of_getElem? (i := 361) (by decide +kernel)⟩
theorem lw_p10 : lw_okq (⟨"CostsAge$Reader", "readAnd", "([II)V"⟩, 8) := ⟨⟨by decide +kernel, by decide +kernel⟩, List.mem_of_getElem? (i := 36) (by decide +kernel), List.mem_of_getElem? (i := 364) (by decide +kernel), List.mem_of_getElem? (i := 365) (by decide +kernel)⟩
theorem lw_p11 : lw_okq (⟨"CostsAge$Reader", "readNot", "([II)V"⟩, 8) := ⟨⟨by decide +kernel, by decide +kernel⟩, List.mem_of_getElem? (i := 36) (by decide +kernel), List.mem_of_getElem? (i := 368) (by decide +kernel), List.mem_of_getElem? (i := 369) (by decide +kernel)⟩
theorem lw_p12 : lw_okq (⟨"CostsAge$Reader", "mayOpen", "(I)Z"⟩, 8) := ⟨⟨by decide +kernel, by decide +kernel⟩, List.mem_of_getElem? (i := 36) (by decide +kernel), List.mem_of_getElem? (i := 372) (by decide +kernel), List.mem_of_getElem? (i := 373) (by decide +kernel)⟩
theorem lw_p13 : lw_okq (⟨"CostsAge$Reader", "put", "([II)V"⟩, 8) := ⟨⟨by decide +kernel, by decide +kernel⟩, List.mem_of_getElem? (i := 36) (by decide +kernel), List.mem_of_getElem? (i := 376) (by decide +kernel), List.mem_of_getElem? (i := 377) (by decide +kernel)⟩
theorem lw_p14 : lw_okq (⟨"CostsAge$Reader", "readSum", "([II)V"⟩, 8) := ⟨⟨by decide +kernel, by decide +kernel⟩, List.mem_of_getElem? (i := 36) (by decide +kernel), List.mem_of_getElem? (i := 380) (by decide +kernel), List.mem_of_getElem? (i := 381) (by decide +kernel)⟩
theorem lw_p15 : lw_okq (⟨"CostsAge$Reader", "readTerm", "([II)V"⟩, 8) := ⟨⟨by decide +kernel, by decide +kernel⟩, List.mem_of_getElem? (i := 36) (by decide +kernel), List.mem_of_getElem? (i := 384) (by decide +kernel), List.mem_of_getElem? (i := 385) (by decide +kernel)⟩
def lw_privs_1 : List (MethodName × Nat) := [(⟨"CostsAge$Reader", "append", "(I)Z"⟩, 8), (⟨"CostsAge$Reader", "compile", "(LCostsAge$Text;)I"⟩, 8), (⟨"CostsAge$Reader", "advance", "()V"⟩, 8), (⟨"CostsAge$Reader", "takeWord", "()V"⟩, 8), (⟨"CostsAge$Reader", "stands", "(Ljava/lang/String;)Z"⟩, 8), (⟨"CostsAge$Reader", "takeNumber", "()V"⟩, 8), (⟨"CostsAge$Reader", "readPart", "(I[I)I"⟩, 8), (⟨"CostsAge$Reader", "expect", "(I)V"⟩, 8), (⟨"CostsAge$Reader", "refuse", "()V"⟩, 8), (⟨"CostsAge$Reader", "readE", "([II)V"⟩, 8), (⟨"CostsAge$Reader", "readAnd", "([II)V"⟩, 8), (⟨"CostsAge$Reader", "readNot", "([II)V"⟩, 8), (⟨"CostsAge$Reader", "mayOpen", "(I)Z"⟩, 8), (⟨"CostsAge$Reader", "put", "([II)V"⟩, 8), (⟨"CostsAge$Reader", "readSum", "([II)V"⟩, 8), (⟨"CostsAge$Reader", "readTerm", "([II)V"⟩, 8)]
theorem lw_r1 : ∀ q ∈ lw_privs_1, lw_okq q := List.forall_mem_cons.mpr ⟨lw_p0, List.forall_mem_cons.mpr ⟨lw_p1, List.forall_mem_cons.mpr ⟨lw_p2, List.forall_mem_cons.mpr ⟨lw_p3, List.forall_mem_cons.mpr ⟨lw_p4, List.forall_mem_cons.mpr ⟨lw_p5, List.forall_mem_cons.mpr ⟨lw_p6, List.forall_mem_cons.mpr ⟨lw_p7, List.forall_mem_cons.mpr ⟨lw_p8, List.forall_mem_cons.mpr ⟨lw_p9, List.forall_mem_cons.mpr ⟨lw_p10, List.forall_mem_cons.mpr ⟨lw_p11, List.forall_mem_cons.mpr ⟨lw_p12, List.forall_mem_cons.mpr ⟨lw_p13, List.forall_mem_cons.mpr ⟨lw_p14, List.forall_mem_cons.mpr ⟨lw_p15, fun _ h => absurd h List.not_mem_nil⟩⟩⟩⟩⟩⟩⟩⟩⟩⟩⟩⟩⟩⟩⟩⟩
theorem lw_p16 : lw_okq (⟨"CostsAge$Reader", "readOne", "([II)V"⟩, 8) := ⟨⟨by decide +kernel, by decide +kernel⟩, List.mem_of_getElem? (i := 36) (by decide +kernel), List.mem_of_getElem? (i := 388) (by decide +kernel), List.mem_of_getElem? (i := 389) (by decide +kernel)⟩
theorem lw_p17 : lw_okq (⟨"CostsAge", "isBuyer", "(I)Z"⟩, 14) := ⟨⟨by decide +kernel, by decide +kernel⟩, List.mem_of_getElem? (i := 20) (by decide +kernel), List.mem_of_getElem? (i := 451) (by decide +kernel), List.mem_of_getElem? (i := 452) (by decide +kernel)⟩
theorem lw_p18 : lw_okq (⟨"CostsAge$Buyer", "moveBirthday", "(I)I"⟩, 3) := ⟨⟨by decide +kernel, by decide +kernel⟩, List.mem_of_getElem? (i := 180) (by decide +kernel), List.mem_of_getElem? (i := 458) (by decide +kernel), List.mem_of_getElem? (i := 459) (by decide +kernel)⟩
theorem lw_p19 : lw_okq (⟨"CostsAge", "isWare", "(I)Z"⟩, 14) := ⟨⟨by decide +kernel, by decide +kernel⟩, List.mem_of_getElem? (i := 20) (by decide +kernel), List.mem_of_getElem? (i := 462) (by decide +kernel), List.mem_of_getElem? (i := 463) (by decide +kernel)⟩
theorem lw_p20 : lw_okq (⟨"CostsAge", "changeCarry", "(I)I"⟩, 14) := ⟨⟨by decide +kernel, by decide +kernel⟩, List.mem_of_getElem? (i := 20) (by decide +kernel), List.mem_of_getElem? (i := 466) (by decide +kernel), List.mem_of_getElem? (i := 467) (by decide +kernel)⟩
theorem lw_p21 : lw_okq (⟨"CostsAge", "tellOfBuyer", "(II)I"⟩, 14) := ⟨⟨by decide +kernel, by decide +kernel⟩, List.mem_of_getElem? (i := 20) (by decide +kernel), List.mem_of_getElem? (i := 474) (by decide +kernel), List.mem_of_getElem? (i := 475) (by decide +kernel)⟩
theorem lw_p22 : lw_okq (⟨"CostsAge$Buyer", "penceAt", "(II)I"⟩, 3) := ⟨⟨by decide +kernel, by decide +kernel⟩, List.mem_of_getElem? (i := 180) (by decide +kernel), List.mem_of_getElem? (i := 478) (by decide +kernel), List.mem_of_getElem? (i := 479) (by decide +kernel)⟩
theorem lw_p23 : lw_okq (⟨"CostsAge$Buyer", "asksBy", "(I)I"⟩, 3) := ⟨⟨by decide +kernel, by decide +kernel⟩, List.mem_of_getElem? (i := 180) (by decide +kernel), List.mem_of_getElem? (i := 485) (by decide +kernel), List.mem_of_getElem? (i := 486) (by decide +kernel)⟩
theorem lw_p24 : lw_okq (⟨"CostsAge", "tellOfWare", "(II)I"⟩, 14) := ⟨⟨by decide +kernel, by decide +kernel⟩, List.mem_of_getElem? (i := 20) (by decide +kernel), List.mem_of_getElem? (i := 489) (by decide +kernel), List.mem_of_getElem? (i := 490) (by decide +kernel)⟩
theorem lw_p25 : lw_okq (⟨"CostsAge$Buyer", "ageIn", "(III)I"⟩, 3) := ⟨⟨by decide +kernel, by decide +kernel⟩, List.mem_of_getElem? (i := 180) (by decide +kernel), List.mem_of_getElem? (i := 509) (by decide +kernel), List.mem_of_getElem? (i := 510) (by decide +kernel)⟩
theorem lw_p26 : lw_okq (⟨"CostsAge", "tie", "(I)Z"⟩, 14) := ⟨⟨by decide +kernel, by decide +kernel⟩, List.mem_of_getElem? (i := 20) (by decide +kernel), List.mem_of_getElem? (i := 520) (by decide +kernel), List.mem_of_getElem? (i := 521) (by decide +kernel)⟩
theorem lw_p27 : lw_okq (⟨"CostsAge", "unbought", "()I"⟩, 14) := ⟨⟨by decide +kernel, by decide +kernel⟩, List.mem_of_getElem? (i := 20) (by decide +kernel), List.mem_of_getElem? (i := 524) (by decide +kernel), List.mem_of_getElem? (i := 525) (by decide +kernel)⟩
theorem lw_p28 : lw_okq (⟨"CostsAge$Scene", "show", "(III)V"⟩, 3) := ⟨⟨by decide +kernel, by decide +kernel⟩, List.mem_of_getElem? (i := 69) (by decide +kernel), List.mem_of_getElem? (i := 531) (by decide +kernel), List.mem_of_getElem? (i := 532) (by decide +kernel)⟩
theorem lw_p29 : lw_okq (⟨"CostsAge", "costBy", "(III)I"⟩, 14) := ⟨⟨by decide +kernel, by decide +kernel⟩, List.mem_of_getElem? (i := 20) (by decide +kernel), List.mem_of_getElem? (i := 535) (by decide +kernel), List.mem_of_getElem? (i := 536) (by decide +kernel)⟩
theorem lw_p30 : lw_okq (⟨"CostsAge", "priceBy", "(III)I"⟩, 14) := ⟨⟨by decide +kernel, by decide +kernel⟩, List.mem_of_getElem? (i := 20) (by decide +kernel), List.mem_of_getElem? (i := 539) (by decide +kernel), List.mem_of_getElem? (i := 540) (by decide +kernel)⟩
theorem lw_p31 : lw_okq (⟨"CostsAge$Scene", "worth", "([III)I"⟩, 3) := ⟨⟨by decide +kernel, by decide +kernel⟩, List.mem_of_getElem? (i := 69) (by decide +kernel), List.mem_of_getElem? (i := 543) (by decide +kernel), List.mem_of_getElem? (i := 544) (by decide +kernel)⟩
def lw_privs_2 : List (MethodName × Nat) := [(⟨"CostsAge$Reader", "readOne", "([II)V"⟩, 8), (⟨"CostsAge", "isBuyer", "(I)Z"⟩, 14), (⟨"CostsAge$Buyer", "moveBirthday", "(I)I"⟩, 3), (⟨"CostsAge", "isWare", "(I)Z"⟩, 14), (⟨"CostsAge", "changeCarry", "(I)I"⟩, 14), (⟨"CostsAge", "tellOfBuyer", "(II)I"⟩, 14), (⟨"CostsAge$Buyer", "penceAt", "(II)I"⟩, 3), (⟨"CostsAge$Buyer", "asksBy", "(I)I"⟩, 3), (⟨"CostsAge", "tellOfWare", "(II)I"⟩, 14), (⟨"CostsAge$Buyer", "ageIn", "(III)I"⟩, 3), (⟨"CostsAge", "tie", "(I)Z"⟩, 14), (⟨"CostsAge", "unbought", "()I"⟩, 14), (⟨"CostsAge$Scene", "show", "(III)V"⟩, 3), (⟨"CostsAge", "costBy", "(III)I"⟩, 14), (⟨"CostsAge", "priceBy", "(III)I"⟩, 14), (⟨"CostsAge$Scene", "worth", "([III)I"⟩, 3)]
theorem lw_r2 : ∀ q ∈ lw_privs_2, lw_okq q := List.forall_mem_cons.mpr ⟨lw_p16, List.forall_mem_cons.mpr ⟨lw_p17, List.forall_mem_cons.mpr ⟨lw_p18, List.forall_mem_cons.mpr ⟨lw_p19, List.forall_mem_cons.mpr ⟨lw_p20, List.forall_mem_cons.mpr ⟨lw_p21, List.forall_mem_cons.mpr ⟨lw_p22, List.forall_mem_cons.mpr ⟨lw_p23, List.forall_mem_cons.mpr ⟨lw_p24, List.forall_mem_cons.mpr ⟨lw_p25, List.forall_mem_cons.mpr ⟨lw_p26, List.forall_mem_cons.mpr ⟨lw_p27, List.forall_mem_cons.mpr ⟨lw_p28, List.forall_mem_cons.mpr ⟨lw_p29, List.forall_mem_cons.mpr ⟨lw_p30, List.forall_mem_cons.mpr ⟨lw_p31, fun _ h => absurd h List.not_mem_nil⟩⟩⟩⟩⟩⟩⟩⟩⟩⟩⟩⟩⟩⟩⟩⟩
theorem lw_p32 : lw_okq (⟨"CostsAge", "leastCost", "(I)I"⟩, 14) := ⟨⟨by decide +kernel, by decide +kernel⟩, List.mem_of_getElem? (i := 20) (by decide +kernel), List.mem_of_getElem? (i := 559) (by decide +kernel), List.mem_of_getElem? (i := 560) (by decide +kernel)⟩
theorem lw_p33 : lw_okq (⟨"CostsAge", "firstBuyerFor", "(II)I"⟩, 14) := ⟨⟨by decide +kernel, by decide +kernel⟩, List.mem_of_getElem? (i := 20) (by decide +kernel), List.mem_of_getElem? (i := 563) (by decide +kernel), List.mem_of_getElem? (i := 564) (by decide +kernel)⟩
theorem lw_p34 : lw_okq (⟨"CostsAge", "showAlone", "(I)Z"⟩, 14) := ⟨⟨by decide +kernel, by decide +kernel⟩, List.mem_of_getElem? (i := 20) (by decide +kernel), List.mem_of_getElem? (i := 571) (by decide +kernel), List.mem_of_getElem? (i := 572) (by decide +kernel)⟩
theorem lw_p35 : lw_okq (⟨"CostsAge", "planAll", "()V"⟩, 14) := ⟨⟨by decide +kernel, by decide +kernel⟩, List.mem_of_getElem? (i := 20) (by decide +kernel), List.mem_of_getElem? (i := 587) (by decide +kernel), List.mem_of_getElem? (i := 588) (by decide +kernel)⟩
theorem lw_p36 : lw_okq (⟨"CostsAge$Plan", "choose", "(I)V"⟩, 5) := ⟨⟨by decide +kernel, by decide +kernel⟩, List.mem_of_getElem? (i := 87) (by decide +kernel), List.mem_of_getElem? (i := 591) (by decide +kernel), List.mem_of_getElem? (i := 592) (by decide +kernel)⟩
theorem lw_p37 : lw_okq (⟨"CostsAge$Plan", "tryHeap", "(II)V"⟩, 5) := ⟨⟨by decide +kernel, by decide +kernel⟩, List.mem_of_getElem? (i := 87) (by decide +kernel), List.mem_of_getElem? (i := 601) (by decide +kernel), List.mem_of_getElem? (i := 602) (by decide +kernel)⟩
theorem lw_p38 : lw_okq (⟨"CostsAge$Plan", "heapOf", "(II)I"⟩, 5) := ⟨⟨by decide +kernel, by decide +kernel⟩, List.mem_of_getElem? (i := 87) (by decide +kernel), List.mem_of_getElem? (i := 609) (by decide +kernel), List.mem_of_getElem? (i := 610) (by decide +kernel)⟩
theorem lw_p39 : lw_okq (⟨"CostsAge", "fillCosts", "()V"⟩, 14) := ⟨⟨by decide +kernel, by decide +kernel⟩, List.mem_of_getElem? (i := 20) (by decide +kernel), List.mem_of_getElem? (i := 618) (by decide +kernel), List.mem_of_getElem? (i := 619) (by decide +kernel)⟩
theorem lw_p40 : lw_okq (⟨"CostsAge", "fillCostsOf", "(II)V"⟩, 14) := ⟨⟨by decide +kernel, by decide +kernel⟩, List.mem_of_getElem? (i := 20) (by decide +kernel), List.mem_of_getElem? (i := 622) (by decide +kernel), List.mem_of_getElem? (i := 623) (by decide +kernel)⟩
theorem lw_p41 : lw_okq (⟨"CostsAge", "crewCost", "(III)I"⟩, 14) := ⟨⟨by decide +kernel, by decide +kernel⟩, List.mem_of_getElem? (i := 20) (by decide +kernel), List.mem_of_getElem? (i := 627) (by decide +kernel), List.mem_of_getElem? (i := 628) (by decide +kernel)⟩
theorem lw_p42 : lw_okq (⟨"CostsAge", "nthOf", "(II)I"⟩, 14) := ⟨⟨by decide +kernel, by decide +kernel⟩, List.mem_of_getElem? (i := 20) (by decide +kernel), List.mem_of_getElem? (i := 631) (by decide +kernel), List.mem_of_getElem? (i := 632) (by decide +kernel)⟩
theorem lw_p43 : lw_okq (⟨"CostsAge", "gainsNow", "()I"⟩, 14) := ⟨⟨by decide +kernel, by decide +kernel⟩, List.mem_of_getElem? (i := 20) (by decide +kernel), List.mem_of_getElem? (i := 640) (by decide +kernel), List.mem_of_getElem? (i := 641) (by decide +kernel)⟩
theorem lw_p44 : lw_okq (⟨"CostsAge", "leastInYear", "()I"⟩, 14) := ⟨⟨by decide +kernel, by decide +kernel⟩, List.mem_of_getElem? (i := 20) (by decide +kernel), List.mem_of_getElem? (i := 648) (by decide +kernel), List.mem_of_getElem? (i := 649) (by decide +kernel)⟩
theorem lw_p45 : lw_okq (⟨"CostsAge", "takesBetterFee", "(I)Z"⟩, 14) := ⟨⟨by decide +kernel, by decide +kernel⟩, List.mem_of_getElem? (i := 20) (by decide +kernel), List.mem_of_getElem? (i := 656) (by decide +kernel), List.mem_of_getElem? (i := 657) (by decide +kernel)⟩
theorem lw_p46 : lw_okq (⟨"CostsAge$Fees", "setBars", "(III)V"⟩, 3) := ⟨⟨by decide +kernel, by decide +kernel⟩, List.mem_of_getElem? (i := 113) (by decide +kernel), List.mem_of_getElem? (i := 660) (by decide +kernel), List.mem_of_getElem? (i := 661) (by decide +kernel)⟩
theorem lw_p47 : lw_okq (⟨"CostsAge", "earnsBy", "(II)I"⟩, 14) := ⟨⟨by decide +kernel, by decide +kernel⟩, List.mem_of_getElem? (i := 20) (by decide +kernel), List.mem_of_getElem? (i := 666) (by decide +kernel), List.mem_of_getElem? (i := 667) (by decide +kernel)⟩
def lw_privs_3 : List (MethodName × Nat) := [(⟨"CostsAge", "leastCost", "(I)I"⟩, 14), (⟨"CostsAge", "firstBuyerFor", "(II)I"⟩, 14), (⟨"CostsAge", "showAlone", "(I)Z"⟩, 14), (⟨"CostsAge", "planAll", "()V"⟩, 14), (⟨"CostsAge$Plan", "choose", "(I)V"⟩, 5), (⟨"CostsAge$Plan", "tryHeap", "(II)V"⟩, 5), (⟨"CostsAge$Plan", "heapOf", "(II)I"⟩, 5), (⟨"CostsAge", "fillCosts", "()V"⟩, 14), (⟨"CostsAge", "fillCostsOf", "(II)V"⟩, 14), (⟨"CostsAge", "crewCost", "(III)I"⟩, 14), (⟨"CostsAge", "nthOf", "(II)I"⟩, 14), (⟨"CostsAge", "gainsNow", "()I"⟩, 14), (⟨"CostsAge", "leastInYear", "()I"⟩, 14), (⟨"CostsAge", "takesBetterFee", "(I)Z"⟩, 14), (⟨"CostsAge$Fees", "setBars", "(III)V"⟩, 3), (⟨"CostsAge", "earnsBy", "(II)I"⟩, 14)]
theorem lw_r3 : ∀ q ∈ lw_privs_3, lw_okq q := List.forall_mem_cons.mpr ⟨lw_p32, List.forall_mem_cons.mpr ⟨lw_p33, List.forall_mem_cons.mpr ⟨lw_p34, List.forall_mem_cons.mpr ⟨lw_p35, List.forall_mem_cons.mpr ⟨lw_p36, List.forall_mem_cons.mpr ⟨lw_p37, List.forall_mem_cons.mpr ⟨lw_p38, List.forall_mem_cons.mpr ⟨lw_p39, List.forall_mem_cons.mpr ⟨lw_p40, List.forall_mem_cons.mpr ⟨lw_p41, List.forall_mem_cons.mpr ⟨lw_p42, List.forall_mem_cons.mpr ⟨lw_p43, List.forall_mem_cons.mpr ⟨lw_p44, List.forall_mem_cons.mpr ⟨lw_p45, List.forall_mem_cons.mpr ⟨lw_p46, List.forall_mem_cons.mpr ⟨lw_p47, fun _ h => absurd h List.not_mem_nil⟩⟩⟩⟩⟩⟩⟩⟩⟩⟩⟩⟩⟩⟩⟩⟩
theorem lw_p48 : lw_okq (⟨"CostsAge$Sheet", "isMissing", "()Z"⟩, 3) := ⟨⟨by decide +kernel, by decide +kernel⟩, List.mem_of_getElem? (i := 233) (by decide +kernel), List.mem_of_getElem? (i := 677) (by decide +kernel), List.mem_of_getElem? (i := 678) (by decide +kernel)⟩
theorem lw_p49 : lw_okq (⟨"CostsAge", "priceOfRow", "(III)I"⟩, 14) := ⟨⟨by decide +kernel, by decide +kernel⟩, List.mem_of_getElem? (i := 20) (by decide +kernel), List.mem_of_getElem? (i := 685) (by decide +kernel), List.mem_of_getElem? (i := 686) (by decide +kernel)⟩
theorem lw_p50 : lw_okq (⟨"CostsAge$Standing", "become", "(LCostsAge$Standing;II)V"⟩, 11) := ⟨⟨by decide +kernel, by decide +kernel⟩, List.mem_of_getElem? (i := 132) (by decide +kernel), List.mem_of_getElem? (i := 702) (by decide +kernel), List.mem_of_getElem? (i := 703) (by decide +kernel)⟩
theorem lw_p51 : lw_okq (⟨"CostsAge$Sheet", "become", "(II)V"⟩, 3) := ⟨⟨by decide +kernel, by decide +kernel⟩, List.mem_of_getElem? (i := 233) (by decide +kernel), List.mem_of_getElem? (i := 724) (by decide +kernel), List.mem_of_getElem? (i := 725) (by decide +kernel)⟩
theorem lw_p52 : lw_okq (⟨"CostsAge$Sheet", "reaches", "(I)Z"⟩, 3) := ⟨⟨by decide +kernel, by decide +kernel⟩, List.mem_of_getElem? (i := 233) (by decide +kernel), List.mem_of_getElem? (i := 732) (by decide +kernel), List.mem_of_getElem? (i := 733) (by decide +kernel)⟩
theorem lw_p53 : lw_okq (⟨"CostsAge$Sheet", "write", "(II)V"⟩, 3) := ⟨⟨by decide +kernel, by decide +kernel⟩, List.mem_of_getElem? (i := 233) (by decide +kernel), List.mem_of_getElem? (i := 736) (by decide +kernel), List.mem_of_getElem? (i := 737) (by decide +kernel)⟩
theorem lw_p54 : lw_okq (⟨"CostsAge$Sheet", "spans", "(II)Z"⟩, 3) := ⟨⟨by decide +kernel, by decide +kernel⟩, List.mem_of_getElem? (i := 233) (by decide +kernel), List.mem_of_getElem? (i := 744) (by decide +kernel), List.mem_of_getElem? (i := 745) (by decide +kernel)⟩
theorem lw_p55 : lw_okq (⟨"CostsAge$Buyer", "isOf", "(I)Z"⟩, 3) := ⟨⟨by decide +kernel, by decide +kernel⟩, List.mem_of_getElem? (i := 180) (by decide +kernel), List.mem_of_getElem? (i := 758) (by decide +kernel), List.mem_of_getElem? (i := 759) (by decide +kernel)⟩
theorem lw_p56 : lw_okq (⟨"CostsAgeModel", "spell", "(IIIIIIIII)V"⟩, 61) := ⟨⟨by decide +kernel, by decide +kernel⟩, List.mem_of_getElem? (i := 764) (by decide +kernel), List.mem_of_getElem? (i := 770) (by decide +kernel), List.mem_of_getElem? (i := 771) (by decide +kernel)⟩
theorem lw_p57 : lw_okq (⟨"CostsAgeModel", "isThing", "(I)Z"⟩, 61) := ⟨⟨by decide +kernel, by decide +kernel⟩, List.mem_of_getElem? (i := 764) (by decide +kernel), List.mem_of_getElem? (i := 979) (by decide +kernel), List.mem_of_getElem? (i := 980) (by decide +kernel)⟩
theorem lw_p58 : lw_okq (⟨"CostsAgeModel", "isBuyer", "(I)Z"⟩, 61) := ⟨⟨by decide +kernel, by decide +kernel⟩, List.mem_of_getElem? (i := 764) (by decide +kernel), List.mem_of_getElem? (i := 983) (by decide +kernel), List.mem_of_getElem? (i := 984) (by decide +kernel)⟩
theorem lw_p59 : lw_okq (⟨"CostsAgeModel", "pence", "(III)I"⟩, 61) := ⟨⟨by decide +kernel, by decide +kernel⟩, List.mem_of_getElem? (i := 764) (by decide +kernel), List.mem_of_getElem? (i := 994) (by decide +kernel), List.mem_of_getElem? (i := 995) (by decide +kernel)⟩
theorem lw_p60 : lw_okq (⟨"CostsAgeModel", "asks", "(I)I"⟩, 61) := ⟨⟨by decide +kernel, by decide +kernel⟩, List.mem_of_getElem? (i := 764) (by decide +kernel), List.mem_of_getElem? (i := 998) (by decide +kernel), List.mem_of_getElem? (i := 999) (by decide +kernel)⟩
theorem lw_p61 : lw_okq (⟨"CostsAgeModel", "read", "(II)I"⟩, 61) := ⟨⟨by decide +kernel, by decide +kernel⟩, List.mem_of_getElem? (i := 764) (by decide +kernel), List.mem_of_getElem? (i := 1011) (by decide +kernel), List.mem_of_getElem? (i := 1012) (by decide +kernel)⟩
theorem lw_p62 : lw_okq (⟨"CostsAgeModel", "next", "()V"⟩, 61) := ⟨⟨by decide +kernel, by decide +kernel⟩, List.mem_of_getElem? (i := 764) (by decide +kernel), List.mem_of_getElem? (i := 1015) (by decide +kernel), List.mem_of_getElem? (i := 1016) (by decide +kernel)⟩
theorem lw_p63 : lw_okq (⟨"CostsAgeModel", "byteAt", "(I)I"⟩, 61) := ⟨⟨by decide +kernel, by decide +kernel⟩, List.mem_of_getElem? (i := 764) (by decide +kernel), List.mem_of_getElem? (i := 1019) (by decide +kernel), List.mem_of_getElem? (i := 1020) (by decide +kernel)⟩
def lw_privs_4 : List (MethodName × Nat) := [(⟨"CostsAge$Sheet", "isMissing", "()Z"⟩, 3), (⟨"CostsAge", "priceOfRow", "(III)I"⟩, 14), (⟨"CostsAge$Standing", "become", "(LCostsAge$Standing;II)V"⟩, 11), (⟨"CostsAge$Sheet", "become", "(II)V"⟩, 3), (⟨"CostsAge$Sheet", "reaches", "(I)Z"⟩, 3), (⟨"CostsAge$Sheet", "write", "(II)V"⟩, 3), (⟨"CostsAge$Sheet", "spans", "(II)Z"⟩, 3), (⟨"CostsAge$Buyer", "isOf", "(I)Z"⟩, 3), (⟨"CostsAgeModel", "spell", "(IIIIIIIII)V"⟩, 61), (⟨"CostsAgeModel", "isThing", "(I)Z"⟩, 61), (⟨"CostsAgeModel", "isBuyer", "(I)Z"⟩, 61), (⟨"CostsAgeModel", "pence", "(III)I"⟩, 61), (⟨"CostsAgeModel", "asks", "(I)I"⟩, 61), (⟨"CostsAgeModel", "read", "(II)I"⟩, 61), (⟨"CostsAgeModel", "next", "()V"⟩, 61), (⟨"CostsAgeModel", "byteAt", "(I)I"⟩, 61)]
theorem lw_r4 : ∀ q ∈ lw_privs_4, lw_okq q := List.forall_mem_cons.mpr ⟨lw_p48, List.forall_mem_cons.mpr ⟨lw_p49, List.forall_mem_cons.mpr ⟨lw_p50, List.forall_mem_cons.mpr ⟨lw_p51, List.forall_mem_cons.mpr ⟨lw_p52, List.forall_mem_cons.mpr ⟨lw_p53, List.forall_mem_cons.mpr ⟨lw_p54, List.forall_mem_cons.mpr ⟨lw_p55, List.forall_mem_cons.mpr ⟨lw_p56, List.forall_mem_cons.mpr ⟨lw_p57, List.forall_mem_cons.mpr ⟨lw_p58, List.forall_mem_cons.mpr ⟨lw_p59, List.forall_mem_cons.mpr ⟨lw_p60, List.forall_mem_cons.mpr ⟨lw_p61, List.forall_mem_cons.mpr ⟨lw_p62, List.forall_mem_cons.mpr ⟨lw_p63, fun _ h => absurd h List.not_mem_nil⟩⟩⟩⟩⟩⟩⟩⟩⟩⟩⟩⟩⟩⟩⟩⟩
theorem lw_p64 : lw_okq (⟨"CostsAgeModel", "isWord", "(IIIIIIII)Z"⟩, 61) := ⟨⟨by decide +kernel, by decide +kernel⟩, List.mem_of_getElem? (i := 764) (by decide +kernel), List.mem_of_getElem? (i := 1027) (by decide +kernel), List.mem_of_getElem? (i := 1028) (by decide +kernel)⟩
theorem lw_p65 : lw_okq (⟨"CostsAgeModel", "isLetter", "(II)Z"⟩, 61) := ⟨⟨by decide +kernel, by decide +kernel⟩, List.mem_of_getElem? (i := 764) (by decide +kernel), List.mem_of_getElem? (i := 1031) (by decide +kernel), List.mem_of_getElem? (i := 1032) (by decide +kernel)⟩
theorem lw_p66 : lw_okq (⟨"CostsAgeModel", "part", "(Z)I"⟩, 61) := ⟨⟨by decide +kernel, by decide +kernel⟩, List.mem_of_getElem? (i := 764) (by decide +kernel), List.mem_of_getElem? (i := 1035) (by decide +kernel), List.mem_of_getElem? (i := 1036) (by decide +kernel)⟩
theorem lw_p67 : lw_okq (⟨"CostsAgeModel", "fail", "()V"⟩, 61) := ⟨⟨by decide +kernel, by decide +kernel⟩, List.mem_of_getElem? (i := 764) (by decide +kernel), List.mem_of_getElem? (i := 1039) (by decide +kernel), List.mem_of_getElem? (i := 1040) (by decide +kernel)⟩
theorem lw_p68 : lw_okq (⟨"CostsAgeModel", "either", "()I"⟩, 61) := ⟨⟨by decide +kernel, by decide +kernel⟩, List.mem_of_getElem? (i := 764) (by decide +kernel), List.mem_of_getElem? (i := 1043) (by decide +kernel), List.mem_of_getElem? (i := 1044) (by decide +kernel)⟩
theorem lw_p69 : lw_okq (⟨"CostsAgeModel", "both", "()I"⟩, 61) := ⟨⟨by decide +kernel, by decide +kernel⟩, List.mem_of_getElem? (i := 764) (by decide +kernel), List.mem_of_getElem? (i := 1047) (by decide +kernel), List.mem_of_getElem? (i := 1048) (by decide +kernel)⟩
theorem lw_p70 : lw_okq (⟨"CostsAgeModel", "not", "()I"⟩, 61) := ⟨⟨by decide +kernel, by decide +kernel⟩, List.mem_of_getElem? (i := 764) (by decide +kernel), List.mem_of_getElem? (i := 1051) (by decide +kernel), List.mem_of_getElem? (i := 1052) (by decide +kernel)⟩
theorem lw_p71 : lw_okq (⟨"CostsAgeModel", "opens", "()Z"⟩, 61) := ⟨⟨by decide +kernel, by decide +kernel⟩, List.mem_of_getElem? (i := 764) (by decide +kernel), List.mem_of_getElem? (i := 1055) (by decide +kernel), List.mem_of_getElem? (i := 1056) (by decide +kernel)⟩
theorem lw_p72 : lw_okq (⟨"CostsAgeModel", "added", "()I"⟩, 61) := ⟨⟨by decide +kernel, by decide +kernel⟩, List.mem_of_getElem? (i := 764) (by decide +kernel), List.mem_of_getElem? (i := 1059) (by decide +kernel), List.mem_of_getElem? (i := 1060) (by decide +kernel)⟩
theorem lw_p73 : lw_okq (⟨"CostsAgeModel", "term", "()I"⟩, 61) := ⟨⟨by decide +kernel, by decide +kernel⟩, List.mem_of_getElem? (i := 764) (by decide +kernel), List.mem_of_getElem? (i := 1063) (by decide +kernel), List.mem_of_getElem? (i := 1064) (by decide +kernel)⟩
theorem lw_p74 : lw_okq (⟨"CostsAgeModel", "atom", "()I"⟩, 61) := ⟨⟨by decide +kernel, by decide +kernel⟩, List.mem_of_getElem? (i := 764) (by decide +kernel), List.mem_of_getElem? (i := 1067) (by decide +kernel), List.mem_of_getElem? (i := 1068) (by decide +kernel)⟩
theorem lw_p75 : lw_okq (⟨"CostsAgeModel", "isSign", "(I)Z"⟩, 61) := ⟨⟨by decide +kernel, by decide +kernel⟩, List.mem_of_getElem? (i := 764) (by decide +kernel), List.mem_of_getElem? (i := 1071) (by decide +kernel), List.mem_of_getElem? (i := 1072) (by decide +kernel)⟩
theorem lw_p76 : lw_okq (⟨"CostsAgeModel", "name", "()I"⟩, 61) := ⟨⟨by decide +kernel, by decide +kernel⟩, List.mem_of_getElem? (i := 764) (by decide +kernel), List.mem_of_getElem? (i := 1075) (by decide +kernel), List.mem_of_getElem? (i := 1076) (by decide +kernel)⟩
theorem lw_p77 : lw_okq (⟨"CostsAgeModel", "yearsIn", "(II)I"⟩, 61) := ⟨⟨by decide +kernel, by decide +kernel⟩, List.mem_of_getElem? (i := 764) (by decide +kernel), List.mem_of_getElem? (i := 1090) (by decide +kernel), List.mem_of_getElem? (i := 1091) (by decide +kernel)⟩
theorem lw_p78 : lw_okq (⟨"CostsAgeModel", "mayBeTied", "(I)Z"⟩, 61) := ⟨⟨by decide +kernel, by decide +kernel⟩, List.mem_of_getElem? (i := 764) (by decide +kernel), List.mem_of_getElem? (i := 1098) (by decide +kernel), List.mem_of_getElem? (i := 1099) (by decide +kernel)⟩
theorem lw_p79 : lw_okq (⟨"CostsAgeModel", "left", "()I"⟩, 61) := ⟨⟨by decide +kernel, by decide +kernel⟩, List.mem_of_getElem? (i := 764) (by decide +kernel), List.mem_of_getElem? (i := 1102) (by decide +kernel), List.mem_of_getElem? (i := 1103) (by decide +kernel)⟩
def lw_privs_5 : List (MethodName × Nat) := [(⟨"CostsAgeModel", "isWord", "(IIIIIIII)Z"⟩, 61), (⟨"CostsAgeModel", "isLetter", "(II)Z"⟩, 61), (⟨"CostsAgeModel", "part", "(Z)I"⟩, 61), (⟨"CostsAgeModel", "fail", "()V"⟩, 61), (⟨"CostsAgeModel", "either", "()I"⟩, 61), (⟨"CostsAgeModel", "both", "()I"⟩, 61), (⟨"CostsAgeModel", "not", "()I"⟩, 61), (⟨"CostsAgeModel", "opens", "()Z"⟩, 61), (⟨"CostsAgeModel", "added", "()I"⟩, 61), (⟨"CostsAgeModel", "term", "()I"⟩, 61), (⟨"CostsAgeModel", "atom", "()I"⟩, 61), (⟨"CostsAgeModel", "isSign", "(I)Z"⟩, 61), (⟨"CostsAgeModel", "name", "()I"⟩, 61), (⟨"CostsAgeModel", "yearsIn", "(II)I"⟩, 61), (⟨"CostsAgeModel", "mayBeTied", "(I)Z"⟩, 61), (⟨"CostsAgeModel", "left", "()I"⟩, 61)]
theorem lw_r5 : ∀ q ∈ lw_privs_5, lw_okq q := List.forall_mem_cons.mpr ⟨lw_p64, List.forall_mem_cons.mpr ⟨lw_p65, List.forall_mem_cons.mpr ⟨lw_p66, List.forall_mem_cons.mpr ⟨lw_p67, List.forall_mem_cons.mpr ⟨lw_p68, List.forall_mem_cons.mpr ⟨lw_p69, List.forall_mem_cons.mpr ⟨lw_p70, List.forall_mem_cons.mpr ⟨lw_p71, List.forall_mem_cons.mpr ⟨lw_p72, List.forall_mem_cons.mpr ⟨lw_p73, List.forall_mem_cons.mpr ⟨lw_p74, List.forall_mem_cons.mpr ⟨lw_p75, List.forall_mem_cons.mpr ⟨lw_p76, List.forall_mem_cons.mpr ⟨lw_p77, List.forall_mem_cons.mpr ⟨lw_p78, List.forall_mem_cons.mpr ⟨lw_p79, fun _ h => absurd h List.not_mem_nil⟩⟩⟩⟩⟩⟩⟩⟩⟩⟩⟩⟩⟩⟩⟩⟩
theorem lw_p80 : lw_okq (⟨"CostsAgeModel", "costOf", "(III)I"⟩, 61) := ⟨⟨by decide +kernel, by decide +kernel⟩, List.mem_of_getElem? (i := 764) (by decide +kernel), List.mem_of_getElem? (i := 1109) (by decide +kernel), List.mem_of_getElem? (i := 1110) (by decide +kernel)⟩
theorem lw_p81 : lw_okq (⟨"CostsAgeModel", "taking", "(III)I"⟩, 61) := ⟨⟨by decide +kernel, by decide +kernel⟩, List.mem_of_getElem? (i := 764) (by decide +kernel), List.mem_of_getElem? (i := 1113) (by decide +kernel), List.mem_of_getElem? (i := 1114) (by decide +kernel)⟩
theorem lw_p82 : lw_okq (⟨"CostsAgeModel", "about", "(III)V"⟩, 61) := ⟨⟨by decide +kernel, by decide +kernel⟩, List.mem_of_getElem? (i := 764) (by decide +kernel), List.mem_of_getElem? (i := 1117) (by decide +kernel), List.mem_of_getElem? (i := 1118) (by decide +kernel)⟩
theorem lw_p83 : lw_okq (⟨"CostsAgeModel", "bestOf", "(II)I"⟩, 61) := ⟨⟨by decide +kernel, by decide +kernel⟩, List.mem_of_getElem? (i := 764) (by decide +kernel), List.mem_of_getElem? (i := 1128) (by decide +kernel), List.mem_of_getElem? (i := 1129) (by decide +kernel)⟩
theorem lw_p84 : lw_okq (⟨"CostsAgeModel", "whenLeast", "(II)I"⟩, 61) := ⟨⟨by decide +kernel, by decide +kernel⟩, List.mem_of_getElem? (i := 764) (by decide +kernel), List.mem_of_getElem? (i := 1136) (by decide +kernel), List.mem_of_getElem? (i := 1137) (by decide +kernel)⟩
theorem lw_p85 : lw_okq (⟨"CostsAgeModel", "plans", "()V"⟩, 61) := ⟨⟨by decide +kernel, by decide +kernel⟩, List.mem_of_getElem? (i := 764) (by decide +kernel), List.mem_of_getElem? (i := 1152) (by decide +kernel), List.mem_of_getElem? (i := 1153) (by decide +kernel)⟩
theorem lw_p86 : lw_okq (⟨"CostsAgeModel", "earns", "(I)I"⟩, 61) := ⟨⟨by decide +kernel, by decide +kernel⟩, List.mem_of_getElem? (i := 764) (by decide +kernel), List.mem_of_getElem? (i := 1177) (by decide +kernel), List.mem_of_getElem? (i := 1178) (by decide +kernel)⟩
def lw_privs_6 : List (MethodName × Nat) := [(⟨"CostsAgeModel", "costOf", "(III)I"⟩, 61), (⟨"CostsAgeModel", "taking", "(III)I"⟩, 61), (⟨"CostsAgeModel", "about", "(III)V"⟩, 61), (⟨"CostsAgeModel", "bestOf", "(II)I"⟩, 61), (⟨"CostsAgeModel", "whenLeast", "(II)I"⟩, 61), (⟨"CostsAgeModel", "plans", "()V"⟩, 61), (⟨"CostsAgeModel", "earns", "(I)I"⟩, 61)]
theorem lw_r6 : ∀ q ∈ lw_privs_6, lw_okq q := List.forall_mem_cons.mpr ⟨lw_p80, List.forall_mem_cons.mpr ⟨lw_p81, List.forall_mem_cons.mpr ⟨lw_p82, List.forall_mem_cons.mpr ⟨lw_p83, List.forall_mem_cons.mpr ⟨lw_p84, List.forall_mem_cons.mpr ⟨lw_p85, List.forall_mem_cons.mpr ⟨lw_p86, fun _ h => absurd h List.not_mem_nil⟩⟩⟩⟩⟩⟩⟩
def lw_privs : List (MethodName × Nat) := lw_privs_1 ++ (lw_privs_2 ++ (lw_privs_3 ++ (lw_privs_4 ++ (lw_privs_5 ++ (lw_privs_6)))))
def lw_tbl : List Cond := k2_sels lw_privs ++ tables_1
theorem lw_privs_ok : ∀ q ∈ lw_privs, lw_okq q := by
  show ∀ q ∈ lw_privs_1 ++ (lw_privs_2 ++ (lw_privs_3 ++ (lw_privs_4 ++ (lw_privs_5 ++ (lw_privs_6))))), lw_okq q
  exact List.forall_mem_append.mpr ⟨lw_r1, List.forall_mem_append.mpr ⟨lw_r2, List.forall_mem_append.mpr ⟨lw_r3, List.forall_mem_append.mpr ⟨lw_r4, List.forall_mem_append.mpr ⟨lw_r5, lw_r6⟩⟩⟩⟩⟩
end
section
/-! names of classes, fields, methods; the words of the tables by their places -/
def lw_good : List Cond := lw_tbl.filter goodWord
theorem tb {w : Cond} (i : Nat) (h : tables_1[i]? = some w) : w ∈ lw_tbl := List.mem_append_right _ (List.mem_of_getElem? h)
theorem tg {w : Cond} (h : w ∈ lw_tbl) (g : goodWord w = true) : w ∈ lw_good := List.mem_filter.mpr ⟨h, g⟩
theorem ts {w : Cond} (i : Nat) (h : (k2_sels lw_privs)[i]? = some w) : w ∈ lw_tbl := List.mem_append_left _ (List.mem_of_getElem? h)
theorem tl {ws : List Cond} (ps : List Nat) (hp : ws = ps.filterMap (fun i => tables_1[i]?)) (hg : ws.all goodWord = true) : ∀ w ∈ ws, w ∈ lw_good := by
  intro w hw
  have h1 := List.all_eq_true.mp hg w hw
  rw [hp] at hw
  obtain ⟨i, -, hi⟩ := List.mem_filterMap.mp hw
  exact tg (tb i hi) h1
def RX0 : String := "CostsAge$Buyer"
def TX0 : u_T := fun k => match k with
  | 0 => ("CostsAge$Buyer", "kind", "I", false)
  | 1 => ("CostsAge$Buyer", "born", "I", false)
  | _ => ("CostsAge$Buyer", "number", "I", false)
def tyX0 : Nat → FieldType := fun k => match k with
  | 0 => .int
  | 1 => .int
  | _ => .int
theorem nmX0 : ∀ a, a < 3 → ∀ b, b < 3 → a ≠ b → (TX0 a).2.1 ≠ (TX0 b).2.1 := by decide +kernel
theorem tyX0_ok : ∀ k, k < 3 → parseFieldDescriptor (TX0 k).2.2.1 = some (tyX0 k) := by decide +kernel
theorem inX0 : ∀ w ∈ u_ws "CostsAge$Buyer" TX0 3, w ∈ lw_good := tl [191, 193, 195] (by decide +kernel) (by decide +kernel)
def RX1 : String := "CostsAge$Fees"
def TX1 : u_T := fun k => match k with
  | 0 => ("CostsAge$Fees", "costs", "[I", true)
  | 1 => ("CostsAge$Fees", "asked", "[I", true)
  | _ => ("CostsAge$Fees", "bars", "[I", true)
def tyX1 : Nat → FieldType := fun k => match k with
  | 0 => .array .int
  | 1 => .array .int
  | _ => .array .int
theorem nmX1 : ∀ a, a < 3 → ∀ b, b < 3 → a ≠ b → (TX1 a).2.1 ≠ (TX1 b).2.1 := by decide +kernel
theorem tyX1_ok : ∀ k, k < 3 → parseFieldDescriptor (TX1 k).2.2.1 = some (tyX1 k) := by decide +kernel
theorem inX1 : ∀ w ∈ u_ws "CostsAge$Fees" TX1 3, w ∈ lw_good := tl [124, 126, 128] (by decide +kernel) (by decide +kernel)
def RX2 : String := "CostsAge$Plan"
def TX2 : u_T := fun k => match k with
  | 0 => ("CostsAge$Plan", "price", "[I", true)
  | 1 => ("CostsAge$Plan", "total", "[I", true)
  | 2 => ("CostsAge$Plan", "heaps", "[I", true)
  | 3 => ("CostsAge$Plan", "first", "[I", true)
  | _ => ("CostsAge$Plan", "crew", "[I", true)
def tyX2 : Nat → FieldType := fun k => match k with
  | 0 => .array .int
  | 1 => .array .int
  | 2 => .array .int
  | 3 => .array .int
  | _ => .array .int
theorem nmX2 : ∀ a, a < 5 → ∀ b, b < 5 → a ≠ b → (TX2 a).2.1 ≠ (TX2 b).2.1 := by decide +kernel
theorem tyX2_ok : ∀ k, k < 5 → parseFieldDescriptor (TX2 k).2.2.1 = some (tyX2 k) := by decide +kernel
theorem inX2 : ∀ w ∈ u_ws "CostsAge$Plan" TX2 5, w ∈ lw_good := tl [101, 103, 105, 107, 109] (by decide +kernel) (by decide +kernel)
def RX3 : String := "CostsAge$Reader"
def TX3 : u_T := fun k => match k with
  | 0 => ("CostsAge$Reader", "tape", "[I", true)
  | 1 => ("CostsAge$Reader", "size", "I", false)
  | 2 => ("CostsAge$Reader", "at", "I", false)
  | 3 => ("CostsAge$Reader", "place", "I", false)
  | 4 => ("CostsAge$Reader", "token", "I", false)
  | 5 => ("CostsAge$Reader", "piece", "I", false)
  | 6 => ("CostsAge$Reader", "fault", "I", false)
  | _ => ("CostsAge$Reader", "length", "I", false)
def tyX3 : Nat → FieldType := fun k => match k with
  | 0 => .array .int
  | 1 => .int
  | 2 => .int
  | 3 => .int
  | 4 => .int
  | 5 => .int
  | 6 => .int
  | _ => .int
theorem nmX3 : ∀ a, a < 8 → ∀ b, b < 8 → a ≠ b → (TX3 a).2.1 ≠ (TX3 b).2.1 := by decide +kernel
theorem tyX3_ok : ∀ k, k < 8 → parseFieldDescriptor (TX3 k).2.2.1 = some (tyX3 k) := by decide +kernel
theorem inX3 : ∀ w ∈ u_ws "CostsAge$Reader" TX3 8, w ∈ lw_good := tl [50, 52, 54, 56, 58, 60, 62, 64] (by decide +kernel) (by decide +kernel)
def RX4 : String := "CostsAge$Scene"
def TX4 : u_T := fun k => match k with
  | 0 => ("CostsAge$Scene", "names", "[I", true)
  | 1 => ("CostsAge$Scene", "stack", "[I", true)
  | _ => ("CostsAge$Scene", "owner", "I", false)
def tyX4 : Nat → FieldType := fun k => match k with
  | 0 => .array .int
  | 1 => .array .int
  | _ => .int
theorem nmX4 : ∀ a, a < 3 → ∀ b, b < 3 → a ≠ b → (TX4 a).2.1 ≠ (TX4 b).2.1 := by decide +kernel
theorem tyX4_ok : ∀ k, k < 3 → parseFieldDescriptor (TX4 k).2.2.1 = some (tyX4 k) := by decide +kernel
theorem inX4 : ∀ w ∈ u_ws "CostsAge$Scene" TX4 3, w ∈ lw_good := tl [79, 81, 83] (by decide +kernel) (by decide +kernel)
def RX5 : String := "CostsAge$Sheet"
def TX5 : u_T := fun k => match k with
  | 0 => ("CostsAge$Sheet", "cells", "[I", true)
  | 1 => ("CostsAge$Sheet", "sort", "I", false)
  | _ => ("CostsAge$Sheet", "size", "I", false)
def tyX5 : Nat → FieldType := fun k => match k with
  | 0 => .array .int
  | 1 => .int
  | _ => .int
theorem nmX5 : ∀ a, a < 3 → ∀ b, b < 3 → a ≠ b → (TX5 a).2.1 ≠ (TX5 b).2.1 := by decide +kernel
theorem tyX5_ok : ∀ k, k < 3 → parseFieldDescriptor (TX5 k).2.2.1 = some (tyX5 k) := by decide +kernel
theorem inX5 : ∀ w ∈ u_ws "CostsAge$Sheet" TX5 3, w ∈ lw_good := tl [244, 246, 248] (by decide +kernel) (by decide +kernel)
def RX6 : String := "CostsAge$Standing"
def TX6 : u_T := fun k => match k with
  | 0 => ("CostsAge$Standing", "years", "[I", true)
  | 1 => ("CostsAge$Standing", "fees", "[I", true)
  | 2 => ("CostsAge$Standing", "owners", "[I", true)
  | 3 => ("CostsAge$Standing", "bought", "I", false)
  | 4 => ("CostsAge$Standing", "week", "I", false)
  | 5 => ("CostsAge$Standing", "year", "I", false)
  | 6 => ("CostsAge$Standing", "till", "I", false)
  | 7 => ("CostsAge$Standing", "carry", "I", false)
  | 8 => ("CostsAge$Standing", "rule", "I", false)
  | 9 => ("CostsAge$Standing", "buyerCount", "I", false)
  | _ => ("CostsAge$Standing", "wareCount", "I", false)
def tyX6 : Nat → FieldType := fun k => match k with
  | 0 => .array .int
  | 1 => .array .int
  | 2 => .array .int
  | 3 => .int
  | 4 => .int
  | 5 => .int
  | 6 => .int
  | 7 => .int
  | 8 => .int
  | 9 => .int
  | _ => .int
theorem nmX6 : ∀ a, a < 11 → ∀ b, b < 11 → a ≠ b → (TX6 a).2.1 ≠ (TX6 b).2.1 := by decide +kernel
theorem tyX6_ok : ∀ k, k < 11 → parseFieldDescriptor (TX6 k).2.2.1 = some (tyX6 k) := by decide +kernel
theorem inX6 : ∀ w ∈ u_ws "CostsAge$Standing" TX6 11, w ∈ lw_good := tl [157, 159, 161, 163, 165, 167, 169, 171, 173, 175, 177] (by decide +kernel) (by decide +kernel)
def RX7 : String := "CostsAge$Text"
def TX7 : u_T := fun k => match k with
  | 0 => ("CostsAge$Text", "code", "[I", true)
  | 1 => ("CostsAge$Text", "servesEnd", "I", false)
  | 2 => ("CostsAge$Text", "addsEnd", "I", false)
  | _ => ("CostsAge$Text", "gainsEnd", "I", false)
def tyX7 : Nat → FieldType := fun k => match k with
  | 0 => .array .int
  | 1 => .int
  | 2 => .int
  | _ => .int
theorem nmX7 : ∀ a, a < 4 → ∀ b, b < 4 → a ≠ b → (TX7 a).2.1 ≠ (TX7 b).2.1 := by decide +kernel
theorem tyX7_ok : ∀ k, k < 4 → parseFieldDescriptor (TX7 k).2.2.1 = some (tyX7 k) := by decide +kernel
theorem inX7 : ∀ w ∈ u_ws "CostsAge$Text" TX7 4, w ∈ lw_good := tl [224, 226, 228, 230] (by decide +kernel) (by decide +kernel)
def RX8 : String := "CostsAge$Ware"
def TX8 : u_T := fun k => match k with
  | 0 => ("CostsAge$Ware", "size", "I", false)
  | _ => ("CostsAge$Ware", "value", "I", false)
def tyX8 : Nat → FieldType := fun k => match k with
  | 0 => .int
  | _ => .int
theorem nmX8 : ∀ a, a < 2 → ∀ b, b < 2 → a ≠ b → (TX8 a).2.1 ≠ (TX8 b).2.1 := by decide +kernel
theorem tyX8_ok : ∀ k, k < 2 → parseFieldDescriptor (TX8 k).2.2.1 = some (tyX8 k) := by decide +kernel
theorem inX8 : ∀ w ∈ u_ws "CostsAge$Ware" TX8 2, w ∈ lw_good := tl [205, 207] (by decide +kernel) (by decide +kernel)
def RX9 : String := "CostsAge"
def TX9 : u_T := fun k => match k with
  | 0 => ("CostsAge", "buyers", "[LCostsAge$Buyer;", true)
  | 1 => ("CostsAge", "wares", "[LCostsAge$Ware;", true)
  | 2 => ("CostsAge", "texts", "[LCostsAge$Text;", true)
  | 3 => ("CostsAge", "sheets", "[LCostsAge$Sheet;", true)
  | 4 => ("CostsAge", "reader", "LCostsAge$Reader;", true)
  | 5 => ("CostsAge", "scene", "LCostsAge$Scene;", true)
  | 6 => ("CostsAge", "plan", "LCostsAge$Plan;", true)
  | 7 => ("CostsAge", "fees", "LCostsAge$Fees;", true)
  | 8 => ("CostsAge", "now", "LCostsAge$Standing;", true)
  | 9 => ("CostsAge", "kept", "LCostsAge$Standing;", true)
  | 10 => ("CostsAge", "hasImage", "Z", false)
  | 11 => ("CostsAge", "buyerCount", "I", false)
  | 12 => ("CostsAge", "wareCount", "I", false)
  | _ => ("CostsAge", "textCount", "I", false)
def tyX9 : Nat → FieldType := fun k => match k with
  | 0 => .array (.object "CostsAge$Buyer")
  | 1 => .array (.object "CostsAge$Ware")
  | 2 => .array (.object "CostsAge$Text")
  | 3 => .array (.object "CostsAge$Sheet")
  | 4 => .object "CostsAge$Reader"
  | 5 => .object "CostsAge$Scene"
  | 6 => .object "CostsAge$Plan"
  | 7 => .object "CostsAge$Fees"
  | 8 => .object "CostsAge$Standing"
  | 9 => .object "CostsAge$Standing"
  | 10 => .boolean
  | 11 => .int
  | 12 => .int
  | _ => .int
theorem nmX9 : ∀ a, a < 14 → ∀ b, b < 14 → a ≠ b → (TX9 a).2.1 ≠ (TX9 b).2.1 := by decide +kernel
theorem tyX9_ok : ∀ k, k < 14 → parseFieldDescriptor (TX9 k).2.2.1 = some (tyX9 k) := by decide +kernel
theorem inX9 : ∀ w ∈ u_ws "CostsAge" TX9 14, w ∈ lw_good := tl [405, 407, 409, 411, 413, 415, 417, 419, 421, 423, 425, 427, 429, 431] (by decide +kernel) (by decide +kernel)
def RX10 : String := "CostsAgeModel"
def TX10 : u_T := fun k => match k with
  | 0 => ("CostsAgeModel", "thrown", "I", false)
  | 1 => ("CostsAgeModel", "texts", "[I", true)
  | 2 => ("CostsAgeModel", "textSize", "[I", true)
  | 3 => ("CostsAgeModel", "textCount", "I", false)
  | 4 => ("CostsAgeModel", "rule", "I", false)
  | 5 => ("CostsAgeModel", "tape", "[I", true)
  | 6 => ("CostsAgeModel", "taped", "I", false)
  | 7 => ("CostsAgeModel", "kinds", "[I", true)
  | 8 => ("CostsAgeModel", "born", "[I", true)
  | 9 => ("CostsAgeModel", "ages", "[I", true)
  | 10 => ("CostsAgeModel", "fees", "[I", true)
  | 11 => ("CostsAgeModel", "numbers", "[I", true)
  | 12 => ("CostsAgeModel", "buyers", "I", false)
  | 13 => ("CostsAgeModel", "sizes", "[I", true)
  | 14 => ("CostsAgeModel", "values", "[I", true)
  | 15 => ("CostsAgeModel", "owners", "[I", true)
  | 16 => ("CostsAgeModel", "many", "I", false)
  | 17 => ("CostsAgeModel", "bought", "I", false)
  | 18 => ("CostsAgeModel", "week", "I", false)
  | 19 => ("CostsAgeModel", "yearNow", "I", false)
  | 20 => ("CostsAgeModel", "till", "I", false)
  | 21 => ("CostsAgeModel", "carry", "I", false)
  | 22 => ("CostsAgeModel", "ofAge", "I", false)
  | 23 => ("CostsAgeModel", "ofSize", "I", false)
  | 24 => ("CostsAgeModel", "ofValue", "I", false)
  | 25 => ("CostsAgeModel", "ofWeek", "I", false)
  | 26 => ("CostsAgeModel", "ofFee", "I", false)
  | 27 => ("CostsAgeModel", "ofOwn", "I", false)
  | 28 => ("CostsAgeModel", "from", "I", false)
  | 29 => ("CostsAgeModel", "size", "I", false)
  | 30 => ("CostsAgeModel", "here", "I", false)
  | 31 => ("CostsAgeModel", "token", "I", false)
  | 32 => ("CostsAgeModel", "tokenAt", "I", false)
  | 33 => ("CostsAgeModel", "tokenWorth", "J", false)
  | 34 => ("CostsAgeModel", "open", "I", false)
  | 35 => ("CostsAgeModel", "bad", "Z", false)
  | 36 => ("CostsAgeModel", "fault", "I", false)
  | 37 => ("CostsAgeModel", "bestCost", "I", false)
  | 38 => ("CostsAgeModel", "leastCost", "I", false)
  | 39 => ("CostsAgeModel", "allCost", "[I", true)
  | 40 => ("CostsAgeModel", "allHeaps", "[I", true)
  | 41 => ("CostsAgeModel", "allFirst", "[I", true)
  | 42 => ("CostsAgeModel", "heapCost", "[I", true)
  | 43 => ("CostsAgeModel", "eachCost", "[I", true)
  | 44 => ("CostsAgeModel", "eachNext", "[I", true)
  | 45 => ("CostsAgeModel", "feesWas", "[I", true)
  | 46 => ("CostsAgeModel", "agesKept", "[I", true)
  | 47 => ("CostsAgeModel", "feesKept", "[I", true)
  | 48 => ("CostsAgeModel", "ownersKept", "[I", true)
  | 49 => ("CostsAgeModel", "buyersKept", "I", false)
  | 50 => ("CostsAgeModel", "manyKept", "I", false)
  | 51 => ("CostsAgeModel", "boughtKept", "I", false)
  | 52 => ("CostsAgeModel", "weekKept", "I", false)
  | 53 => ("CostsAgeModel", "yearKept", "I", false)
  | 54 => ("CostsAgeModel", "tillKept", "I", false)
  | 55 => ("CostsAgeModel", "carryKept", "I", false)
  | 56 => ("CostsAgeModel", "ruleKept", "I", false)
  | 57 => ("CostsAgeModel", "isThere", "[Z", true)
  | 58 => ("CostsAgeModel", "sorts", "[I", true)
  | 59 => ("CostsAgeModel", "sheetSize", "[I", true)
  | _ => ("CostsAgeModel", "items", "[I", true)
def tyX10 : Nat → FieldType := fun k => match k with
  | 0 => .int
  | 1 => .array .int
  | 2 => .array .int
  | 3 => .int
  | 4 => .int
  | 5 => .array .int
  | 6 => .int
  | 7 => .array .int
  | 8 => .array .int
  | 9 => .array .int
  | 10 => .array .int
  | 11 => .array .int
  | 12 => .int
  | 13 => .array .int
  | 14 => .array .int
  | 15 => .array .int
  | 16 => .int
  | 17 => .int
  | 18 => .int
  | 19 => .int
  | 20 => .int
  | 21 => .int
  | 22 => .int
  | 23 => .int
  | 24 => .int
  | 25 => .int
  | 26 => .int
  | 27 => .int
  | 28 => .int
  | 29 => .int
  | 30 => .int
  | 31 => .int
  | 32 => .int
  | 33 => .long
  | 34 => .int
  | 35 => .boolean
  | 36 => .int
  | 37 => .int
  | 38 => .int
  | 39 => .array .int
  | 40 => .array .int
  | 41 => .array .int
  | 42 => .array .int
  | 43 => .array .int
  | 44 => .array .int
  | 45 => .array .int
  | 46 => .array .int
  | 47 => .array .int
  | 48 => .array .int
  | 49 => .int
  | 50 => .int
  | 51 => .int
  | 52 => .int
  | 53 => .int
  | 54 => .int
  | 55 => .int
  | 56 => .int
  | 57 => .array .boolean
  | 58 => .array .int
  | 59 => .array .int
  | _ => .array .int
theorem nmX10 : ∀ a, a < 61 → ∀ b, b < 61 → a ≠ b → (TX10 a).2.1 ≠ (TX10 b).2.1 := by decide +kernel
theorem tyX10_ok : ∀ k, k < 61 → parseFieldDescriptor (TX10 k).2.2.1 = some (tyX10 k) := by decide +kernel
theorem inX10 : ∀ w ∈ u_ws "CostsAgeModel" TX10 61, w ∈ lw_good := tl [833, 835, 837, 839, 841, 843, 845, 847, 849, 851, 853, 855, 857, 859, 861, 863, 865, 867, 869, 871, 873, 875, 877, 879, 881, 883, 885, 887, 889, 891, 893, 895, 897, 899, 901, 903, 905, 907, 909, 911, 913, 915, 917, 919, 921, 923, 925, 927, 929, 931, 933, 935, 937, 939, 941, 943, 945, 947, 949, 951, 953] (by decide +kernel) (by decide +kernel)
abbrev classes : List vw_C := [("CostsAge$Buyer", TX0, 3), ("CostsAge$Fees", TX1, 3), ("CostsAge$Plan", TX2, 5), ("CostsAge$Reader", TX3, 8), ("CostsAge$Scene", TX4, 3), ("CostsAge$Sheet", TX5, 3), ("CostsAge$Standing", TX6, 11), ("CostsAge$Text", TX7, 4), ("CostsAge$Ware", TX8, 2), ("CostsAge", TX9, 14), ("CostsAgeModel", TX10, 61)]
abbrev cX0_init : ByteArray := prog_2_method_1_code
def yX0_init : MethodName := ⟨"CostsAge$Buyer", "<init>", "()V"⟩
abbrev cX0_moveBirthday : ByteArray := prog_2_method_2_code
def yX0_moveBirthday : MethodName := ⟨"CostsAge$Buyer", "moveBirthday", "(I)I"⟩
abbrev cX0_isOf : ByteArray := prog_2_method_3_code
def yX0_isOf : MethodName := ⟨"CostsAge$Buyer", "isOf", "(I)Z"⟩
abbrev cX0_ageIn : ByteArray := prog_2_method_4_code
def yX0_ageIn : MethodName := ⟨"CostsAge$Buyer", "ageIn", "(III)I"⟩
abbrev cX0_penceAt : ByteArray := prog_2_method_5_code
def yX0_penceAt : MethodName := ⟨"CostsAge$Buyer", "penceAt", "(II)I"⟩
abbrev cX0_asksBy : ByteArray := prog_2_method_6_code
def yX0_asksBy : MethodName := ⟨"CostsAge$Buyer", "asksBy", "(I)I"⟩
abbrev cX1_init : ByteArray := prog_3_method_1_code
def yX1_init : MethodName := ⟨"CostsAge$Fees", "<init>", "()V"⟩
abbrev cX1_setBars : ByteArray := prog_3_method_2_code
def yX1_setBars : MethodName := ⟨"CostsAge$Fees", "setBars", "(III)V"⟩
abbrev cX2_init : ByteArray := prog_4_method_1_code
def yX2_init : MethodName := ⟨"CostsAge$Plan", "<init>", "()V"⟩
abbrev cX2_choose : ByteArray := prog_4_method_2_code
def yX2_choose : MethodName := ⟨"CostsAge$Plan", "choose", "(I)V"⟩
abbrev cX2_tryHeap : ByteArray := prog_4_method_3_code
def yX2_tryHeap : MethodName := ⟨"CostsAge$Plan", "tryHeap", "(II)V"⟩
abbrev cX2_heapOf : ByteArray := prog_4_method_4_code
def yX2_heapOf : MethodName := ⟨"CostsAge$Plan", "heapOf", "(II)I"⟩
abbrev cX3_init : ByteArray := prog_5_method_1_code
def yX3_init : MethodName := ⟨"CostsAge$Reader", "<init>", "()V"⟩
abbrev cX3_append : ByteArray := prog_5_method_2_code
def yX3_append : MethodName := ⟨"CostsAge$Reader", "append", "(I)Z"⟩
abbrev cX3_compile : ByteArray := prog_5_method_3_code
def yX3_compile : MethodName := ⟨"CostsAge$Reader", "compile", "(LCostsAge$Text;)I"⟩
abbrev cX3_readPart : ByteArray := prog_5_method_4_code
def yX3_readPart : MethodName := ⟨"CostsAge$Reader", "readPart", "(I[I)I"⟩
abbrev cX3_readE : ByteArray := prog_5_method_5_code
def yX3_readE : MethodName := ⟨"CostsAge$Reader", "readE", "([II)V"⟩
abbrev cX3_readAnd : ByteArray := prog_5_method_6_code
def yX3_readAnd : MethodName := ⟨"CostsAge$Reader", "readAnd", "([II)V"⟩
abbrev cX3_readNot : ByteArray := prog_5_method_7_code
def yX3_readNot : MethodName := ⟨"CostsAge$Reader", "readNot", "([II)V"⟩
abbrev cX3_readSum : ByteArray := prog_5_method_8_code
def yX3_readSum : MethodName := ⟨"CostsAge$Reader", "readSum", "([II)V"⟩
abbrev cX3_readTerm : ByteArray := prog_5_method_9_code
def yX3_readTerm : MethodName := ⟨"CostsAge$Reader", "readTerm", "([II)V"⟩
abbrev cX3_readOne : ByteArray := prog_5_method_10_code
def yX3_readOne : MethodName := ⟨"CostsAge$Reader", "readOne", "([II)V"⟩
abbrev cX3_mayOpen : ByteArray := prog_5_method_11_code
def yX3_mayOpen : MethodName := ⟨"CostsAge$Reader", "mayOpen", "(I)Z"⟩
abbrev cX3_expect : ByteArray := prog_5_method_12_code
def yX3_expect : MethodName := ⟨"CostsAge$Reader", "expect", "(I)V"⟩
abbrev cX3_refuse : ByteArray := prog_5_method_13_code
def yX3_refuse : MethodName := ⟨"CostsAge$Reader", "refuse", "()V"⟩
abbrev cX3_put : ByteArray := prog_5_method_14_code
def yX3_put : MethodName := ⟨"CostsAge$Reader", "put", "([II)V"⟩
abbrev cX3_advance : ByteArray := prog_5_method_15_code
def yX3_advance : MethodName := ⟨"CostsAge$Reader", "advance", "()V"⟩
abbrev cX3_takeWord : ByteArray := prog_5_method_16_code
def yX3_takeWord : MethodName := ⟨"CostsAge$Reader", "takeWord", "()V"⟩
abbrev cX3_takeNumber : ByteArray := prog_5_method_17_code
def yX3_takeNumber : MethodName := ⟨"CostsAge$Reader", "takeNumber", "()V"⟩
abbrev cX3_stands : ByteArray := prog_5_method_18_code
def yX3_stands : MethodName := ⟨"CostsAge$Reader", "stands", "(Ljava/lang/String;)Z"⟩
abbrev cX3_isLetter : ByteArray := prog_5_method_19_code
def yX3_isLetter : MethodName := ⟨"CostsAge$Reader", "isLetter", "(I)Z"⟩
abbrev cX3_isDigit : ByteArray := prog_5_method_20_code
def yX3_isDigit : MethodName := ⟨"CostsAge$Reader", "isDigit", "(I)Z"⟩
abbrev cX3_isSign : ByteArray := prog_5_method_21_code
def yX3_isSign : MethodName := ⟨"CostsAge$Reader", "isSign", "(I)Z"⟩
abbrev cX4_init : ByteArray := prog_6_method_1_code
def yX4_init : MethodName := ⟨"CostsAge$Scene", "<init>", "()V"⟩
abbrev cX4_show : ByteArray := prog_6_method_2_code
def yX4_show : MethodName := ⟨"CostsAge$Scene", "show", "(III)V"⟩
abbrev cX4_worth : ByteArray := prog_6_method_3_code
def yX4_worth : MethodName := ⟨"CostsAge$Scene", "worth", "([III)I"⟩
abbrev cX4_joined : ByteArray := prog_6_method_4_code
def yX4_joined : MethodName := ⟨"CostsAge$Scene", "joined", "(III)I"⟩
abbrev cX5_init : ByteArray := prog_7_method_1_code
def yX5_init : MethodName := ⟨"CostsAge$Sheet", "<init>", "()V"⟩
abbrev cX5_isMissing : ByteArray := prog_7_method_2_code
def yX5_isMissing : MethodName := ⟨"CostsAge$Sheet", "isMissing", "()Z"⟩
abbrev cX5_become : ByteArray := prog_7_method_3_code
def yX5_become : MethodName := ⟨"CostsAge$Sheet", "become", "(II)V"⟩
abbrev cX5_reaches : ByteArray := prog_7_method_4_code
def yX5_reaches : MethodName := ⟨"CostsAge$Sheet", "reaches", "(I)Z"⟩
abbrev cX5_spans : ByteArray := prog_7_method_5_code
def yX5_spans : MethodName := ⟨"CostsAge$Sheet", "spans", "(II)Z"⟩
abbrev cX5_write : ByteArray := prog_7_method_6_code
def yX5_write : MethodName := ⟨"CostsAge$Sheet", "write", "(II)V"⟩
abbrev cX6_init : ByteArray := prog_8_method_1_code
def yX6_init : MethodName := ⟨"CostsAge$Standing", "<init>", "()V"⟩
abbrev cX6_become : ByteArray := prog_8_method_2_code
def yX6_become : MethodName := ⟨"CostsAge$Standing", "become", "(LCostsAge$Standing;II)V"⟩
abbrev cX7_init : ByteArray := prog_9_method_1_code
def yX7_init : MethodName := ⟨"CostsAge$Text", "<init>", "()V"⟩
abbrev cX8_init : ByteArray := prog_10_method_1_code
def yX8_init : MethodName := ⟨"CostsAge$Ware", "<init>", "()V"⟩
abbrev cX9_init : ByteArray := prog_1_method_1_code
def yX9_init : MethodName := ⟨"CostsAge", "<init>", "()V"⟩
abbrev cX9_buyer : ByteArray := prog_1_method_2_code
def yX9_buyer : MethodName := ⟨"CostsAge", "buyer", "(III)I"⟩
abbrev cX9_thing : ByteArray := prog_1_method_3_code
def yX9_thing : MethodName := ⟨"CostsAge", "thing", "(II)I"⟩
abbrev cX9_set : ByteArray := prog_1_method_4_code
def yX9_set : MethodName := ⟨"CostsAge", "set", "(III)I"⟩
abbrev cX9_told : ByteArray := prog_1_method_5_code
def yX9_told : MethodName := ⟨"CostsAge", "told", "(II)I"⟩
abbrev cX9_tellOfBuyer : ByteArray := prog_1_method_6_code
def yX9_tellOfBuyer : MethodName := ⟨"CostsAge", "tellOfBuyer", "(II)I"⟩
abbrev cX9_tellOfWare : ByteArray := prog_1_method_7_code
def yX9_tellOfWare : MethodName := ⟨"CostsAge", "tellOfWare", "(II)I"⟩
abbrev cX9_changeCarry : ByteArray := prog_1_method_8_code
def yX9_changeCarry : MethodName := ⟨"CostsAge", "changeCarry", "(I)I"⟩
abbrev cX9_exchange : ByteArray := prog_1_method_9_code
def yX9_exchange : MethodName := ⟨"CostsAge", "exchange", "([III)I"⟩
abbrev cX9_isWithin : ByteArray := prog_1_method_10_code
def yX9_isWithin : MethodName := ⟨"CostsAge", "isWithin", "(II)Z"⟩
abbrev cX9_isBuyer : ByteArray := prog_1_method_11_code
def yX9_isBuyer : MethodName := ⟨"CostsAge", "isBuyer", "(I)Z"⟩
abbrev cX9_isWare : ByteArray := prog_1_method_12_code
def yX9_isWare : MethodName := ⟨"CostsAge", "isWare", "(I)Z"⟩
abbrev cX9_unbought : ByteArray := prog_1_method_13_code
def yX9_unbought : MethodName := ⟨"CostsAge", "unbought", "()I"⟩
abbrev cX9_has : ByteArray := prog_1_method_14_code
def yX9_has : MethodName := ⟨"CostsAge", "has", "(II)Z"⟩
abbrev cX9_feed : ByteArray := prog_1_method_15_code
def yX9_feed : MethodName := ⟨"CostsAge", "feed", "(I)I"⟩
abbrev cX9_text : ByteArray := prog_1_method_16_code
def yX9_text : MethodName := ⟨"CostsAge", "text", "()I"⟩
abbrev cX9_force : ByteArray := prog_1_method_17_code
def yX9_force : MethodName := ⟨"CostsAge", "force", "(I)I"⟩
abbrev cX9_years : ByteArray := prog_1_method_18_code
def yX9_years : MethodName := ⟨"CostsAge", "years", "(II)I"⟩
abbrev cX9_cost : ByteArray := prog_1_method_19_code
def yX9_cost : MethodName := ⟨"CostsAge", "cost", "(III)I"⟩
abbrev cX9_best : ByteArray := prog_1_method_20_code
def yX9_best : MethodName := ⟨"CostsAge", "best", "(III)I"⟩
abbrev cX9_when : ByteArray := prog_1_method_21_code
def yX9_when : MethodName := ⟨"CostsAge", "when", "(II)I"⟩
abbrev cX9_buy : ByteArray := prog_1_method_22_code
def yX9_buy : MethodName := ⟨"CostsAge", "buy", "(II)I"⟩
abbrev cX9_pass : ByteArray := prog_1_method_23_code
def yX9_pass : MethodName := ⟨"CostsAge", "pass", "()I"⟩
abbrev cX9_showAlone : ByteArray := prog_1_method_24_code
def yX9_showAlone : MethodName := ⟨"CostsAge", "showAlone", "(I)Z"⟩
abbrev cX9_tie : ByteArray := prog_1_method_25_code
def yX9_tie : MethodName := ⟨"CostsAge", "tie", "(I)Z"⟩
abbrev cX9_priceBy : ByteArray := prog_1_method_26_code
def yX9_priceBy : MethodName := ⟨"CostsAge", "priceBy", "(III)I"⟩
abbrev cX9_costBy : ByteArray := prog_1_method_27_code
def yX9_costBy : MethodName := ⟨"CostsAge", "costBy", "(III)I"⟩
abbrev cX9_leastCost : ByteArray := prog_1_method_28_code
def yX9_leastCost : MethodName := ⟨"CostsAge", "leastCost", "(I)I"⟩
abbrev cX9_firstBuyerFor : ByteArray := prog_1_method_29_code
def yX9_firstBuyerFor : MethodName := ⟨"CostsAge", "firstBuyerFor", "(II)I"⟩
abbrev cX9_held : ByteArray := prog_1_method_30_code
def yX9_held : MethodName := ⟨"CostsAge", "held", "(I)I"⟩
abbrev cX9_all : ByteArray := prog_1_method_31_code
def yX9_all : MethodName := ⟨"CostsAge", "all", "(I)I"⟩
abbrev cX9_heap : ByteArray := prog_1_method_32_code
def yX9_heap : MethodName := ⟨"CostsAge", "heap", "(I)I"⟩
abbrev cX9_planAll : ByteArray := prog_1_method_33_code
def yX9_planAll : MethodName := ⟨"CostsAge", "planAll", "()V"⟩
abbrev cX9_eachOne : ByteArray := prog_1_method_34_code
def yX9_eachOne : MethodName := ⟨"CostsAge", "eachOne", "()I"⟩
abbrev cX9_crewCost : ByteArray := prog_1_method_35_code
def yX9_crewCost : MethodName := ⟨"CostsAge", "crewCost", "(III)I"⟩
abbrev cX9_nthOf : ByteArray := prog_1_method_36_code
def yX9_nthOf : MethodName := ⟨"CostsAge", "nthOf", "(II)I"⟩
abbrev cX9_gain : ByteArray := prog_1_method_37_code
def yX9_gain : MethodName := ⟨"CostsAge", "gain", "(II)J"⟩
abbrev cX9_gainsNow : ByteArray := prog_1_method_38_code
def yX9_gainsNow : MethodName := ⟨"CostsAge", "gainsNow", "()I"⟩
abbrev cX9_year : ByteArray := prog_1_method_39_code
def yX9_year : MethodName := ⟨"CostsAge", "year", "()I"⟩
abbrev cX9_leastInYear : ByteArray := prog_1_method_40_code
def yX9_leastInYear : MethodName := ⟨"CostsAge", "leastInYear", "()I"⟩
abbrev cX9_rest : ByteArray := prog_1_method_41_code
def yX9_rest : MethodName := ⟨"CostsAge", "rest", "(I)I"⟩
abbrev cX9_takesBetterFee : ByteArray := prog_1_method_42_code
def yX9_takesBetterFee : MethodName := ⟨"CostsAge", "takesBetterFee", "(I)Z"⟩
abbrev cX9_earnsBy : ByteArray := prog_1_method_43_code
def yX9_earnsBy : MethodName := ⟨"CostsAge", "earnsBy", "(II)I"⟩
abbrev cX9_fillCosts : ByteArray := prog_1_method_44_code
def yX9_fillCosts : MethodName := ⟨"CostsAge", "fillCosts", "()V"⟩
abbrev cX9_fillCostsOf : ByteArray := prog_1_method_45_code
def yX9_fillCostsOf : MethodName := ⟨"CostsAge", "fillCostsOf", "(II)V"⟩
abbrev cX9_lies : ByteArray := prog_1_method_46_code
def yX9_lies : MethodName := ⟨"CostsAge", "lies", "(I)I"⟩
abbrev cX9_judge : ByteArray := prog_1_method_47_code
def yX9_judge : MethodName := ⟨"CostsAge", "judge", "(II)I"⟩
abbrev cX9_priceOfRow : ByteArray := prog_1_method_48_code
def yX9_priceOfRow : MethodName := ⟨"CostsAge", "priceOfRow", "(III)I"⟩
abbrev cX9_drawn : ByteArray := prog_1_method_49_code
def yX9_drawn : MethodName := ⟨"CostsAge", "drawn", "(I)I"⟩
abbrev cX9_mean : ByteArray := prog_1_method_50_code
def yX9_mean : MethodName := ⟨"CostsAge", "mean", "(I)J"⟩
abbrev cX9_image : ByteArray := prog_1_method_51_code
def yX9_image : MethodName := ⟨"CostsAge", "image", "()I"⟩
abbrev cX9_back : ByteArray := prog_1_method_52_code
def yX9_back : MethodName := ⟨"CostsAge", "back", "()I"⟩
abbrev cX9_count : ByteArray := prog_1_method_53_code
def yX9_count : MethodName := ⟨"CostsAge", "count", "(I)I"⟩
abbrev cX9_sheet : ByteArray := prog_1_method_54_code
def yX9_sheet : MethodName := ⟨"CostsAge", "sheet", "(III)I"⟩
abbrev cX9_cell : ByteArray := prog_1_method_55_code
def yX9_cell : MethodName := ⟨"CostsAge", "cell", "(III)I"⟩
abbrev cX9_copy : ByteArray := prog_1_method_56_code
def yX9_copy : MethodName := ⟨"CostsAge", "copy", "(IIIII)I"⟩
abbrev cX9_things : ByteArray := prog_1_method_57_code
def yX9_things : MethodName := ⟨"CostsAge", "things", "(IIII)I"⟩
abbrev cX9_taken : ByteArray := prog_1_method_58_code
def yX9_taken : MethodName := ⟨"CostsAge", "taken", "(II)I"⟩
abbrev cX9_isSheet : ByteArray := prog_1_method_59_code
def yX9_isSheet : MethodName := ⟨"CostsAge", "isSheet", "(I)Z"⟩
abbrev cX9_isSort : ByteArray := prog_1_method_60_code
def yX9_isSort : MethodName := ⟨"CostsAge", "isSort", "(I)Z"⟩
abbrev cX10_in : ByteArray := prog_12_method_2_code
def yX10_in : MethodName := ⟨"CostsAgeModel", "in", "(JJJ)Z"⟩
abbrev cX10_within : ByteArray := prog_12_method_3_code
def yX10_within : MethodName := ⟨"CostsAgeModel", "within", "(III)I"⟩
abbrev cX10_bitsOf : ByteArray := prog_12_method_4_code
def yX10_bitsOf : MethodName := ⟨"CostsAgeModel", "bitsOf", "(I)I"⟩
abbrev cX10_init : ByteArray := prog_12_method_5_code
def yX10_init : MethodName := ⟨"CostsAgeModel", "<init>", "()V"⟩
abbrev cX10_spell : ByteArray := prog_12_method_6_code
def yX10_spell : MethodName := ⟨"CostsAgeModel", "spell", "(IIIIIIIII)V"⟩
abbrev cX10_isBuyer : ByteArray := prog_12_method_7_code
def yX10_isBuyer : MethodName := ⟨"CostsAgeModel", "isBuyer", "(I)Z"⟩
abbrev cX10_isThing : ByteArray := prog_12_method_8_code
def yX10_isThing : MethodName := ⟨"CostsAgeModel", "isThing", "(I)Z"⟩
abbrev cX10_left : ByteArray := prog_12_method_9_code
def yX10_left : MethodName := ⟨"CostsAgeModel", "left", "()I"⟩
abbrev cX10_buyer : ByteArray := prog_12_method_10_code
def yX10_buyer : MethodName := ⟨"CostsAgeModel", "buyer", "(III)I"⟩
abbrev cX10_thing : ByteArray := prog_12_method_11_code
def yX10_thing : MethodName := ⟨"CostsAgeModel", "thing", "(II)I"⟩
abbrev cX10_set : ByteArray := prog_12_method_12_code
def yX10_set : MethodName := ⟨"CostsAgeModel", "set", "(III)I"⟩
abbrev cX10_pence : ByteArray := prog_12_method_13_code
def yX10_pence : MethodName := ⟨"CostsAgeModel", "pence", "(III)I"⟩
abbrev cX10_asks : ByteArray := prog_12_method_14_code
def yX10_asks : MethodName := ⟨"CostsAgeModel", "asks", "(I)I"⟩
abbrev cX10_told : ByteArray := prog_12_method_15_code
def yX10_told : MethodName := ⟨"CostsAgeModel", "told", "(II)I"⟩
abbrev cX10_feed : ByteArray := prog_12_method_16_code
def yX10_feed : MethodName := ⟨"CostsAgeModel", "feed", "(I)I"⟩
abbrev cX10_byteAt : ByteArray := prog_12_method_17_code
def yX10_byteAt : MethodName := ⟨"CostsAgeModel", "byteAt", "(I)I"⟩
abbrev cX10_next : ByteArray := prog_12_method_18_code
def yX10_next : MethodName := ⟨"CostsAgeModel", "next", "()V"⟩
abbrev cX10_fail : ByteArray := prog_12_method_19_code
def yX10_fail : MethodName := ⟨"CostsAgeModel", "fail", "()V"⟩
abbrev cX10_isLetter : ByteArray := prog_12_method_20_code
def yX10_isLetter : MethodName := ⟨"CostsAgeModel", "isLetter", "(II)Z"⟩
abbrev cX10_isWord : ByteArray := prog_12_method_21_code
def yX10_isWord : MethodName := ⟨"CostsAgeModel", "isWord", "(IIIIIIII)Z"⟩
abbrev cX10_isSign : ByteArray := prog_12_method_22_code
def yX10_isSign : MethodName := ⟨"CostsAgeModel", "isSign", "(I)Z"⟩
abbrev cX10_opens : ByteArray := prog_12_method_23_code
def yX10_opens : MethodName := ⟨"CostsAgeModel", "opens", "()Z"⟩
abbrev cX10_name : ByteArray := prog_12_method_24_code
def yX10_name : MethodName := ⟨"CostsAgeModel", "name", "()I"⟩
abbrev cX10_atom : ByteArray := prog_12_method_25_code
def yX10_atom : MethodName := ⟨"CostsAgeModel", "atom", "()I"⟩
abbrev cX10_term : ByteArray := prog_12_method_26_code
def yX10_term : MethodName := ⟨"CostsAgeModel", "term", "()I"⟩
abbrev cX10_added : ByteArray := prog_12_method_27_code
def yX10_added : MethodName := ⟨"CostsAgeModel", "added", "()I"⟩
abbrev cX10_not : ByteArray := prog_12_method_28_code
def yX10_not : MethodName := ⟨"CostsAgeModel", "not", "()I"⟩
abbrev cX10_both : ByteArray := prog_12_method_29_code
def yX10_both : MethodName := ⟨"CostsAgeModel", "both", "()I"⟩
abbrev cX10_either : ByteArray := prog_12_method_30_code
def yX10_either : MethodName := ⟨"CostsAgeModel", "either", "()I"⟩
abbrev cX10_part : ByteArray := prog_12_method_31_code
def yX10_part : MethodName := ⟨"CostsAgeModel", "part", "(Z)I"⟩
abbrev cX10_read : ByteArray := prog_12_method_32_code
def yX10_read : MethodName := ⟨"CostsAgeModel", "read", "(II)I"⟩
abbrev cX10_text : ByteArray := prog_12_method_33_code
def yX10_text : MethodName := ⟨"CostsAgeModel", "text", "()I"⟩
abbrev cX10_force : ByteArray := prog_12_method_34_code
def yX10_force : MethodName := ⟨"CostsAgeModel", "force", "(I)I"⟩
abbrev cX10_yearsIn : ByteArray := prog_12_method_35_code
def yX10_yearsIn : MethodName := ⟨"CostsAgeModel", "yearsIn", "(II)I"⟩
abbrev cX10_years : ByteArray := prog_12_method_36_code
def yX10_years : MethodName := ⟨"CostsAgeModel", "years", "(II)I"⟩
abbrev cX10_about : ByteArray := prog_12_method_37_code
def yX10_about : MethodName := ⟨"CostsAgeModel", "about", "(III)V"⟩
abbrev cX10_taking : ByteArray := prog_12_method_38_code
def yX10_taking : MethodName := ⟨"CostsAgeModel", "taking", "(III)I"⟩
abbrev cX10_costOf : ByteArray := prog_12_method_39_code
def yX10_costOf : MethodName := ⟨"CostsAgeModel", "costOf", "(III)I"⟩
abbrev cX10_mayBeTied : ByteArray := prog_12_method_40_code
def yX10_mayBeTied : MethodName := ⟨"CostsAgeModel", "mayBeTied", "(I)Z"⟩
abbrev cX10_cost : ByteArray := prog_12_method_41_code
def yX10_cost : MethodName := ⟨"CostsAgeModel", "cost", "(III)I"⟩
abbrev cX10_bestOf : ByteArray := prog_12_method_42_code
def yX10_bestOf : MethodName := ⟨"CostsAgeModel", "bestOf", "(II)I"⟩
abbrev cX10_best : ByteArray := prog_12_method_43_code
def yX10_best : MethodName := ⟨"CostsAgeModel", "best", "(III)I"⟩
abbrev cX10_whenLeast : ByteArray := prog_12_method_44_code
def yX10_whenLeast : MethodName := ⟨"CostsAgeModel", "whenLeast", "(II)I"⟩
abbrev cX10_when : ByteArray := prog_12_method_45_code
def yX10_when : MethodName := ⟨"CostsAgeModel", "when", "(II)I"⟩
abbrev cX10_buy : ByteArray := prog_12_method_46_code
def yX10_buy : MethodName := ⟨"CostsAgeModel", "buy", "(II)I"⟩
abbrev cX10_pass : ByteArray := prog_12_method_47_code
def yX10_pass : MethodName := ⟨"CostsAgeModel", "pass", "()I"⟩
abbrev cX10_plans : ByteArray := prog_12_method_48_code
def yX10_plans : MethodName := ⟨"CostsAgeModel", "plans", "()V"⟩
abbrev cX10_all : ByteArray := prog_12_method_49_code
def yX10_all : MethodName := ⟨"CostsAgeModel", "all", "(I)I"⟩
abbrev cX10_heap : ByteArray := prog_12_method_50_code
def yX10_heap : MethodName := ⟨"CostsAgeModel", "heap", "(I)I"⟩
abbrev cX10_eachOne : ByteArray := prog_12_method_51_code
def yX10_eachOne : MethodName := ⟨"CostsAgeModel", "eachOne", "()I"⟩
abbrev cX10_gain : ByteArray := prog_12_method_52_code
def yX10_gain : MethodName := ⟨"CostsAgeModel", "gain", "(II)J"⟩
abbrev cX10_year : ByteArray := prog_12_method_53_code
def yX10_year : MethodName := ⟨"CostsAgeModel", "year", "()I"⟩
abbrev cX10_earns : ByteArray := prog_12_method_54_code
def yX10_earns : MethodName := ⟨"CostsAgeModel", "earns", "(I)I"⟩
abbrev cX10_rest : ByteArray := prog_12_method_55_code
def yX10_rest : MethodName := ⟨"CostsAgeModel", "rest", "(I)I"⟩
abbrev cX10_lies : ByteArray := prog_12_method_56_code
def yX10_lies : MethodName := ⟨"CostsAgeModel", "lies", "(I)I"⟩
abbrev cX10_judge : ByteArray := prog_12_method_57_code
def yX10_judge : MethodName := ⟨"CostsAgeModel", "judge", "(II)I"⟩
abbrev cX10_drawn : ByteArray := prog_12_method_58_code
def yX10_drawn : MethodName := ⟨"CostsAgeModel", "drawn", "(I)I"⟩
abbrev cX10_mean : ByteArray := prog_12_method_59_code
def yX10_mean : MethodName := ⟨"CostsAgeModel", "mean", "(I)J"⟩
abbrev cX10_image : ByteArray := prog_12_method_60_code
def yX10_image : MethodName := ⟨"CostsAgeModel", "image", "()I"⟩
abbrev cX10_back : ByteArray := prog_12_method_61_code
def yX10_back : MethodName := ⟨"CostsAgeModel", "back", "()I"⟩
abbrev cX10_count : ByteArray := prog_12_method_62_code
def yX10_count : MethodName := ⟨"CostsAgeModel", "count", "(I)I"⟩
abbrev cX10_isSheet : ByteArray := prog_12_method_63_code
def yX10_isSheet : MethodName := ⟨"CostsAgeModel", "isSheet", "(I)Z"⟩
abbrev cX10_sheet : ByteArray := prog_12_method_64_code
def yX10_sheet : MethodName := ⟨"CostsAgeModel", "sheet", "(III)I"⟩
abbrev cX10_cell : ByteArray := prog_12_method_65_code
def yX10_cell : MethodName := ⟨"CostsAgeModel", "cell", "(III)I"⟩
abbrev cX10_copy : ByteArray := prog_12_method_66_code
def yX10_copy : MethodName := ⟨"CostsAgeModel", "copy", "(IIIII)I"⟩
abbrev cX10_things : ByteArray := prog_12_method_67_code
def yX10_things : MethodName := ⟨"CostsAgeModel", "things", "(IIII)I"⟩
abbrev cX10_over : ByteArray := prog_12_method_68_code
def yX10_over : MethodName := ⟨"CostsAgeModel", "over", "(I)I"⟩
abbrev cX10_taken : ByteArray := prog_12_method_69_code
def yX10_taken : MethodName := ⟨"CostsAgeModel", "taken", "(II)I"⟩
abbrev cJ6_bitCount_0f7a4 : ByteArray := prog_13_method_49_code
def yJ6_bitCount_0f7a4 : MethodName := ⟨"java/lang/Integer", "bitCount", "(I)I"⟩
abbrev cJ9_max_7cf53 : ByteArray := prog_14_method_65_code
def yJ9_max_7cf53 : MethodName := ⟨"java/lang/Math", "max", "(II)I"⟩
abbrev cJ9_min_7cf53 : ByteArray := prog_14_method_69_code
def yJ9_min_7cf53 : MethodName := ⟨"java/lang/Math", "min", "(II)I"⟩
abbrev cJ0_length_8abf5 : ByteArray := prog_15_method_54_code
def yJ0_length_8abf5 : MethodName := ⟨"java/lang/String", "length", "()I"⟩
abbrev cJ0_charAt_5068e : ByteArray := prog_15_method_56_code
def yJ0_charAt_5068e : MethodName := ⟨"java/lang/String", "charAt", "(I)C"⟩
abbrev cJ0_coder_7d493 : ByteArray := prog_15_method_152_code
def yJ0_coder_7d493 : MethodName := ⟨"java/lang/String", "coder", "()B"⟩
abbrev cJ0_isLatin1_aae02 : ByteArray := prog_15_method_154_code
def yJ0_isLatin1_aae02 : MethodName := ⟨"java/lang/String", "isLatin1", "()Z"⟩
abbrev cJ0_checkIndex_df160 : ByteArray := prog_15_method_155_code
def yJ0_checkIndex_df160 : MethodName := ⟨"java/lang/String", "checkIndex", "(II)V"⟩
abbrev cJ1_charAt_3b067 : ByteArray := prog_16_method_2_code
def yJ1_charAt_3b067 : MethodName := ⟨"java/lang/StringLatin1", "charAt", "([BI)C"⟩
abbrev cJ2_getChar_3b067 : ByteArray := prog_17_method_5_code
def yJ2_getChar_3b067 : MethodName := ⟨"java/lang/StringUTF16", "getChar", "([BI)C"⟩
abbrev cJ2_length_9d52b : ByteArray := prog_17_method_6_code
def yJ2_length_9d52b : MethodName := ⟨"java/lang/StringUTF16", "length", "([B)I"⟩
abbrev cJ2_charAt_3b067 : ByteArray := prog_17_method_83_code
def yJ2_charAt_3b067 : MethodName := ⟨"java/lang/StringUTF16", "charAt", "([BI)C"⟩
abbrev cJ2_checkIndex_2214a : ByteArray := prog_17_method_91_code
def yJ2_checkIndex_2214a : MethodName := ⟨"java/lang/StringUTF16", "checkIndex", "(I[B)V"⟩
abbrev cJ3_checkIndex_8e157 : ByteArray := prog_19_method_11_code
def yJ3_checkIndex_8e157 : MethodName := ⟨"jdk/internal/util/Preconditions", "checkIndex", "(IILjava/util/function/BiFunction;)I"⟩
theorem qc_X0_init : Cond.code yX0_init cX0_init 1 none ∈ lw_good := tg (tb 183 (by decide +kernel)) rfl
theorem qi_X0_init : Cond.instanceMethod yX0_init ∈ lw_good := tg (tb 182 (by decide +kernel)) rfl
theorem qc_X0_moveBirthday : Cond.code yX0_moveBirthday cX0_moveBirthday 3 (some .int) ∈ lw_good := tg (tb 460 (by decide +kernel)) rfl
theorem qi_X0_moveBirthday : Cond.instanceMethod yX0_moveBirthday ∈ lw_good := tg (tb 459 (by decide +kernel)) rfl
theorem ql_X0_moveBirthday : Cond.selects "CostsAge$Buyer" yX0_moveBirthday yX0_moveBirthday ∈ lw_good := tg (ts 18 (by decide +kernel)) rfl
theorem qc_X0_isOf : Cond.code yX0_isOf cX0_isOf 4 (some .boolean) ∈ lw_good := tg (tb 760 (by decide +kernel)) rfl
theorem qi_X0_isOf : Cond.instanceMethod yX0_isOf ∈ lw_good := tg (tb 759 (by decide +kernel)) rfl
theorem ql_X0_isOf : Cond.selects "CostsAge$Buyer" yX0_isOf yX0_isOf ∈ lw_good := tg (ts 55 (by decide +kernel)) rfl
theorem qc_X0_ageIn : Cond.code yX0_ageIn cX0_ageIn 6 (some .int) ∈ lw_good := tg (tb 511 (by decide +kernel)) rfl
theorem qi_X0_ageIn : Cond.instanceMethod yX0_ageIn ∈ lw_good := tg (tb 510 (by decide +kernel)) rfl
theorem ql_X0_ageIn : Cond.selects "CostsAge$Buyer" yX0_ageIn yX0_ageIn ∈ lw_good := tg (ts 25 (by decide +kernel)) rfl
theorem qc_X0_penceAt : Cond.code yX0_penceAt cX0_penceAt 5 (some .int) ∈ lw_good := tg (tb 480 (by decide +kernel)) rfl
theorem qi_X0_penceAt : Cond.instanceMethod yX0_penceAt ∈ lw_good := tg (tb 479 (by decide +kernel)) rfl
theorem ql_X0_penceAt : Cond.selects "CostsAge$Buyer" yX0_penceAt yX0_penceAt ∈ lw_good := tg (ts 22 (by decide +kernel)) rfl
theorem qc_X0_asksBy : Cond.code yX0_asksBy cX0_asksBy 2 (some .int) ∈ lw_good := tg (tb 487 (by decide +kernel)) rfl
theorem qi_X0_asksBy : Cond.instanceMethod yX0_asksBy ∈ lw_good := tg (tb 486 (by decide +kernel)) rfl
theorem ql_X0_asksBy : Cond.selects "CostsAge$Buyer" yX0_asksBy yX0_asksBy ∈ lw_good := tg (ts 23 (by decide +kernel)) rfl
theorem qc_X1_init : Cond.code yX1_init cX1_init 1 none ∈ lw_good := tg (tb 116 (by decide +kernel)) rfl
theorem qi_X1_init : Cond.instanceMethod yX1_init ∈ lw_good := tg (tb 115 (by decide +kernel)) rfl
theorem qc_X1_setBars : Cond.code yX1_setBars cX1_setBars 8 none ∈ lw_good := tg (tb 662 (by decide +kernel)) rfl
theorem qi_X1_setBars : Cond.instanceMethod yX1_setBars ∈ lw_good := tg (tb 661 (by decide +kernel)) rfl
theorem ql_X1_setBars : Cond.selects "CostsAge$Fees" yX1_setBars yX1_setBars ∈ lw_good := tg (ts 46 (by decide +kernel)) rfl
theorem qc_X2_init : Cond.code yX2_init cX2_init 1 none ∈ lw_good := tg (tb 90 (by decide +kernel)) rfl
theorem qi_X2_init : Cond.instanceMethod yX2_init ∈ lw_good := tg (tb 89 (by decide +kernel)) rfl
theorem qc_X2_choose : Cond.code yX2_choose cX2_choose 6 none ∈ lw_good := tg (tb 593 (by decide +kernel)) rfl
theorem qi_X2_choose : Cond.instanceMethod yX2_choose ∈ lw_good := tg (tb 592 (by decide +kernel)) rfl
theorem ql_X2_choose : Cond.selects "CostsAge$Plan" yX2_choose yX2_choose ∈ lw_good := tg (ts 36 (by decide +kernel)) rfl
theorem qc_X2_tryHeap : Cond.code yX2_tryHeap cX2_tryHeap 6 none ∈ lw_good := tg (tb 603 (by decide +kernel)) rfl
theorem qi_X2_tryHeap : Cond.instanceMethod yX2_tryHeap ∈ lw_good := tg (tb 602 (by decide +kernel)) rfl
theorem ql_X2_tryHeap : Cond.selects "CostsAge$Plan" yX2_tryHeap yX2_tryHeap ∈ lw_good := tg (ts 37 (by decide +kernel)) rfl
theorem qc_X2_heapOf : Cond.code yX2_heapOf cX2_heapOf 5 (some .int) ∈ lw_good := tg (tb 611 (by decide +kernel)) rfl
theorem qi_X2_heapOf : Cond.instanceMethod yX2_heapOf ∈ lw_good := tg (tb 610 (by decide +kernel)) rfl
theorem ql_X2_heapOf : Cond.selects "CostsAge$Plan" yX2_heapOf yX2_heapOf ∈ lw_good := tg (ts 38 (by decide +kernel)) rfl
theorem qc_X3_init : Cond.code yX3_init cX3_init 1 none ∈ lw_good := tg (tb 39 (by decide +kernel)) rfl
theorem qi_X3_init : Cond.instanceMethod yX3_init ∈ lw_good := tg (tb 38 (by decide +kernel)) rfl
theorem qc_X3_append : Cond.code yX3_append cX3_append 2 (some .boolean) ∈ lw_good := tg (tb 303 (by decide +kernel)) rfl
theorem qi_X3_append : Cond.instanceMethod yX3_append ∈ lw_good := tg (tb 302 (by decide +kernel)) rfl
theorem ql_X3_append : Cond.selects "CostsAge$Reader" yX3_append yX3_append ∈ lw_good := tg (ts 0 (by decide +kernel)) rfl
theorem qc_X3_compile : Cond.code yX3_compile cX3_compile 2 (some .int) ∈ lw_good := tg (tb 307 (by decide +kernel)) rfl
theorem qi_X3_compile : Cond.instanceMethod yX3_compile ∈ lw_good := tg (tb 306 (by decide +kernel)) rfl
theorem ql_X3_compile : Cond.selects "CostsAge$Reader" yX3_compile yX3_compile ∈ lw_good := tg (ts 1 (by decide +kernel)) rfl
theorem qc_X3_readPart : Cond.code yX3_readPart cX3_readPart 3 (some .int) ∈ lw_good := tg (tb 350 (by decide +kernel)) rfl
theorem qi_X3_readPart : Cond.instanceMethod yX3_readPart ∈ lw_good := tg (tb 349 (by decide +kernel)) rfl
theorem ql_X3_readPart : Cond.selects "CostsAge$Reader" yX3_readPart yX3_readPart ∈ lw_good := tg (ts 6 (by decide +kernel)) rfl
theorem qc_X3_readE : Cond.code yX3_readE cX3_readE 4 none ∈ lw_good := tg (tb 362 (by decide +kernel)) rfl
theorem qi_X3_readE : Cond.instanceMethod yX3_readE ∈ lw_good := tg (tb 361 (by decide +kernel)) rfl
theorem ql_X3_readE : Cond.selects "CostsAge$Reader" yX3_readE yX3_readE ∈ lw_good := tg (ts 9 (by decide +kernel)) rfl
theorem qc_X3_readAnd : Cond.code yX3_readAnd cX3_readAnd 4 none ∈ lw_good := tg (tb 366 (by decide +kernel)) rfl
theorem qi_X3_readAnd : Cond.instanceMethod yX3_readAnd ∈ lw_good := tg (tb 365 (by decide +kernel)) rfl
theorem ql_X3_readAnd : Cond.selects "CostsAge$Reader" yX3_readAnd yX3_readAnd ∈ lw_good := tg (ts 10 (by decide +kernel)) rfl
theorem qc_X3_readNot : Cond.code yX3_readNot cX3_readNot 4 none ∈ lw_good := tg (tb 370 (by decide +kernel)) rfl
theorem qi_X3_readNot : Cond.instanceMethod yX3_readNot ∈ lw_good := tg (tb 369 (by decide +kernel)) rfl
theorem ql_X3_readNot : Cond.selects "CostsAge$Reader" yX3_readNot yX3_readNot ∈ lw_good := tg (ts 11 (by decide +kernel)) rfl
theorem qc_X3_readSum : Cond.code yX3_readSum cX3_readSum 5 none ∈ lw_good := tg (tb 382 (by decide +kernel)) rfl
theorem qi_X3_readSum : Cond.instanceMethod yX3_readSum ∈ lw_good := tg (tb 381 (by decide +kernel)) rfl
theorem ql_X3_readSum : Cond.selects "CostsAge$Reader" yX3_readSum yX3_readSum ∈ lw_good := tg (ts 14 (by decide +kernel)) rfl
theorem qc_X3_readTerm : Cond.code yX3_readTerm cX3_readTerm 4 none ∈ lw_good := tg (tb 386 (by decide +kernel)) rfl
theorem qi_X3_readTerm : Cond.instanceMethod yX3_readTerm ∈ lw_good := tg (tb 385 (by decide +kernel)) rfl
theorem ql_X3_readTerm : Cond.selects "CostsAge$Reader" yX3_readTerm yX3_readTerm ∈ lw_good := tg (ts 15 (by decide +kernel)) rfl
theorem qc_X3_readOne : Cond.code yX3_readOne cX3_readOne 3 none ∈ lw_good := tg (tb 390 (by decide +kernel)) rfl
theorem qi_X3_readOne : Cond.instanceMethod yX3_readOne ∈ lw_good := tg (tb 389 (by decide +kernel)) rfl
theorem ql_X3_readOne : Cond.selects "CostsAge$Reader" yX3_readOne yX3_readOne ∈ lw_good := tg (ts 16 (by decide +kernel)) rfl
theorem qc_X3_mayOpen : Cond.code yX3_mayOpen cX3_mayOpen 2 (some .boolean) ∈ lw_good := tg (tb 374 (by decide +kernel)) rfl
theorem qi_X3_mayOpen : Cond.instanceMethod yX3_mayOpen ∈ lw_good := tg (tb 373 (by decide +kernel)) rfl
theorem ql_X3_mayOpen : Cond.selects "CostsAge$Reader" yX3_mayOpen yX3_mayOpen ∈ lw_good := tg (ts 12 (by decide +kernel)) rfl
theorem qc_X3_expect : Cond.code yX3_expect cX3_expect 2 none ∈ lw_good := tg (tb 354 (by decide +kernel)) rfl
theorem qi_X3_expect : Cond.instanceMethod yX3_expect ∈ lw_good := tg (tb 353 (by decide +kernel)) rfl
theorem ql_X3_expect : Cond.selects "CostsAge$Reader" yX3_expect yX3_expect ∈ lw_good := tg (ts 7 (by decide +kernel)) rfl
theorem qc_X3_refuse : Cond.code yX3_refuse cX3_refuse 1 none ∈ lw_good := tg (tb 358 (by decide +kernel)) rfl
theorem qi_X3_refuse : Cond.instanceMethod yX3_refuse ∈ lw_good := tg (tb 357 (by decide +kernel)) rfl
theorem ql_X3_refuse : Cond.selects "CostsAge$Reader" yX3_refuse yX3_refuse ∈ lw_good := tg (ts 8 (by decide +kernel)) rfl
theorem qc_X3_put : Cond.code yX3_put cX3_put 3 none ∈ lw_good := tg (tb 378 (by decide +kernel)) rfl
theorem qi_X3_put : Cond.instanceMethod yX3_put ∈ lw_good := tg (tb 377 (by decide +kernel)) rfl
theorem ql_X3_put : Cond.selects "CostsAge$Reader" yX3_put yX3_put ∈ lw_good := tg (ts 13 (by decide +kernel)) rfl
theorem qc_X3_advance : Cond.code yX3_advance cX3_advance 1 none ∈ lw_good := tg (tb 311 (by decide +kernel)) rfl
theorem qi_X3_advance : Cond.instanceMethod yX3_advance ∈ lw_good := tg (tb 310 (by decide +kernel)) rfl
theorem ql_X3_advance : Cond.selects "CostsAge$Reader" yX3_advance yX3_advance ∈ lw_good := tg (ts 2 (by decide +kernel)) rfl
theorem qc_X3_takeWord : Cond.code yX3_takeWord cX3_takeWord 2 none ∈ lw_good := tg (tb 318 (by decide +kernel)) rfl
theorem qi_X3_takeWord : Cond.instanceMethod yX3_takeWord ∈ lw_good := tg (tb 317 (by decide +kernel)) rfl
theorem ql_X3_takeWord : Cond.selects "CostsAge$Reader" yX3_takeWord yX3_takeWord ∈ lw_good := tg (ts 3 (by decide +kernel)) rfl
theorem qc_X3_takeNumber : Cond.code yX3_takeNumber cX3_takeNumber 1 none ∈ lw_good := tg (tb 343 (by decide +kernel)) rfl
theorem qi_X3_takeNumber : Cond.instanceMethod yX3_takeNumber ∈ lw_good := tg (tb 342 (by decide +kernel)) rfl
theorem ql_X3_takeNumber : Cond.selects "CostsAge$Reader" yX3_takeNumber yX3_takeNumber ∈ lw_good := tg (ts 5 (by decide +kernel)) rfl
theorem qc_X3_stands : Cond.code yX3_stands cX3_stands 3 (some .boolean) ∈ lw_good := tg (tb 323 (by decide +kernel)) rfl
theorem qi_X3_stands : Cond.instanceMethod yX3_stands ∈ lw_good := tg (tb 322 (by decide +kernel)) rfl
theorem ql_X3_stands : Cond.selects "CostsAge$Reader" yX3_stands yX3_stands ∈ lw_good := tg (ts 4 (by decide +kernel)) rfl
theorem qc_X3_isLetter : Cond.code yX3_isLetter cX3_isLetter 1 (some .boolean) ∈ lw_good := tg (tb 314 (by decide +kernel)) rfl
theorem qs_X3_isLetter : Cond.static yX3_isLetter ∈ lw_good := tg (tb 313 (by decide +kernel)) rfl
theorem qc_X3_isDigit : Cond.code yX3_isDigit cX3_isDigit 1 (some .boolean) ∈ lw_good := tg (tb 339 (by decide +kernel)) rfl
theorem qs_X3_isDigit : Cond.static yX3_isDigit ∈ lw_good := tg (tb 338 (by decide +kernel)) rfl
theorem qc_X3_isSign : Cond.code yX3_isSign cX3_isSign 1 (some .boolean) ∈ lw_good := tg (tb 346 (by decide +kernel)) rfl
theorem qs_X3_isSign : Cond.static yX3_isSign ∈ lw_good := tg (tb 345 (by decide +kernel)) rfl
theorem qc_X4_init : Cond.code yX4_init cX4_init 1 none ∈ lw_good := tg (tb 72 (by decide +kernel)) rfl
theorem qi_X4_init : Cond.instanceMethod yX4_init ∈ lw_good := tg (tb 71 (by decide +kernel)) rfl
theorem qc_X4_show : Cond.code yX4_show cX4_show 4 none ∈ lw_good := tg (tb 533 (by decide +kernel)) rfl
theorem qi_X4_show : Cond.instanceMethod yX4_show ∈ lw_good := tg (tb 532 (by decide +kernel)) rfl
theorem ql_X4_show : Cond.selects "CostsAge$Scene" yX4_show yX4_show ∈ lw_good := tg (ts 28 (by decide +kernel)) rfl
theorem qc_X4_worth : Cond.code yX4_worth cX4_worth 7 (some .int) ∈ lw_good := tg (tb 545 (by decide +kernel)) rfl
theorem qi_X4_worth : Cond.instanceMethod yX4_worth ∈ lw_good := tg (tb 544 (by decide +kernel)) rfl
theorem ql_X4_worth : Cond.selects "CostsAge$Scene" yX4_worth yX4_worth ∈ lw_good := tg (ts 31 (by decide +kernel)) rfl
theorem qc_X4_joined : Cond.code yX4_joined cX4_joined 3 (some .int) ∈ lw_good := tg (tb 548 (by decide +kernel)) rfl
theorem qs_X4_joined : Cond.static yX4_joined ∈ lw_good := tg (tb 547 (by decide +kernel)) rfl
theorem qc_X5_init : Cond.code yX5_init cX5_init 1 none ∈ lw_good := tg (tb 236 (by decide +kernel)) rfl
theorem qi_X5_init : Cond.instanceMethod yX5_init ∈ lw_good := tg (tb 235 (by decide +kernel)) rfl
theorem qc_X5_isMissing : Cond.code yX5_isMissing cX5_isMissing 1 (some .boolean) ∈ lw_good := tg (tb 679 (by decide +kernel)) rfl
theorem qi_X5_isMissing : Cond.instanceMethod yX5_isMissing ∈ lw_good := tg (tb 678 (by decide +kernel)) rfl
theorem ql_X5_isMissing : Cond.selects "CostsAge$Sheet" yX5_isMissing yX5_isMissing ∈ lw_good := tg (ts 48 (by decide +kernel)) rfl
theorem qc_X5_become : Cond.code yX5_become cX5_become 4 none ∈ lw_good := tg (tb 726 (by decide +kernel)) rfl
theorem qi_X5_become : Cond.instanceMethod yX5_become ∈ lw_good := tg (tb 725 (by decide +kernel)) rfl
theorem ql_X5_become : Cond.selects "CostsAge$Sheet" yX5_become yX5_become ∈ lw_good := tg (ts 51 (by decide +kernel)) rfl
theorem qc_X5_reaches : Cond.code yX5_reaches cX5_reaches 2 (some .boolean) ∈ lw_good := tg (tb 734 (by decide +kernel)) rfl
theorem qi_X5_reaches : Cond.instanceMethod yX5_reaches ∈ lw_good := tg (tb 733 (by decide +kernel)) rfl
theorem ql_X5_reaches : Cond.selects "CostsAge$Sheet" yX5_reaches yX5_reaches ∈ lw_good := tg (ts 52 (by decide +kernel)) rfl
theorem qc_X5_spans : Cond.code yX5_spans cX5_spans 3 (some .boolean) ∈ lw_good := tg (tb 746 (by decide +kernel)) rfl
theorem qi_X5_spans : Cond.instanceMethod yX5_spans ∈ lw_good := tg (tb 745 (by decide +kernel)) rfl
theorem ql_X5_spans : Cond.selects "CostsAge$Sheet" yX5_spans yX5_spans ∈ lw_good := tg (ts 54 (by decide +kernel)) rfl
theorem qc_X5_write : Cond.code yX5_write cX5_write 3 none ∈ lw_good := tg (tb 738 (by decide +kernel)) rfl
theorem qi_X5_write : Cond.instanceMethod yX5_write ∈ lw_good := tg (tb 737 (by decide +kernel)) rfl
theorem ql_X5_write : Cond.selects "CostsAge$Sheet" yX5_write yX5_write ∈ lw_good := tg (ts 53 (by decide +kernel)) rfl
theorem qc_X6_init : Cond.code yX6_init cX6_init 1 none ∈ lw_good := tg (tb 135 (by decide +kernel)) rfl
theorem qi_X6_init : Cond.instanceMethod yX6_init ∈ lw_good := tg (tb 134 (by decide +kernel)) rfl
theorem qc_X6_become : Cond.code yX6_become cX6_become 5 none ∈ lw_good := tg (tb 704 (by decide +kernel)) rfl
theorem qi_X6_become : Cond.instanceMethod yX6_become ∈ lw_good := tg (tb 703 (by decide +kernel)) rfl
theorem ql_X6_become : Cond.selects "CostsAge$Standing" yX6_become yX6_become ∈ lw_good := tg (ts 50 (by decide +kernel)) rfl
theorem qc_X7_init : Cond.code yX7_init cX7_init 1 none ∈ lw_good := tg (tb 213 (by decide +kernel)) rfl
theorem qi_X7_init : Cond.instanceMethod yX7_init ∈ lw_good := tg (tb 212 (by decide +kernel)) rfl
theorem qc_X8_init : Cond.code yX8_init cX8_init 1 none ∈ lw_good := tg (tb 201 (by decide +kernel)) rfl
theorem qi_X8_init : Cond.instanceMethod yX8_init ∈ lw_good := tg (tb 200 (by decide +kernel)) rfl
theorem qc_X9_init : Cond.code yX9_init cX9_init 2 none ∈ lw_good := tg (tb 23 (by decide +kernel)) rfl
theorem qi_X9_init : Cond.instanceMethod yX9_init ∈ lw_good := tg (tb 22 (by decide +kernel)) rfl
theorem qc_X9_buyer : Cond.code yX9_buyer cX9_buyer 5 (some .int) ∈ lw_good := tg (tb 438 (by decide +kernel)) rfl
theorem qi_X9_buyer : Cond.instanceMethod yX9_buyer ∈ lw_good := tg (tb 436 (by decide +kernel)) rfl
theorem ql_X9_buyer : Cond.selects "CostsAge" yX9_buyer yX9_buyer ∈ lw_good := tg (tb 437 (by decide +kernel)) rfl
theorem qc_X9_thing : Cond.code yX9_thing cX9_thing 3 (some .int) ∈ lw_good := tg (tb 445 (by decide +kernel)) rfl
theorem qi_X9_thing : Cond.instanceMethod yX9_thing ∈ lw_good := tg (tb 443 (by decide +kernel)) rfl
theorem ql_X9_thing : Cond.selects "CostsAge" yX9_thing yX9_thing ∈ lw_good := tg (tb 444 (by decide +kernel)) rfl
theorem qc_X9_set : Cond.code yX9_set cX9_set 4 (some .int) ∈ lw_good := tg (tb 449 (by decide +kernel)) rfl
theorem qi_X9_set : Cond.instanceMethod yX9_set ∈ lw_good := tg (tb 447 (by decide +kernel)) rfl
theorem ql_X9_set : Cond.selects "CostsAge" yX9_set yX9_set ∈ lw_good := tg (tb 448 (by decide +kernel)) rfl
theorem qc_X9_told : Cond.code yX9_told cX9_told 3 (some .int) ∈ lw_good := tg (tb 472 (by decide +kernel)) rfl
theorem qi_X9_told : Cond.instanceMethod yX9_told ∈ lw_good := tg (tb 470 (by decide +kernel)) rfl
theorem ql_X9_told : Cond.selects "CostsAge" yX9_told yX9_told ∈ lw_good := tg (tb 471 (by decide +kernel)) rfl
theorem qc_X9_tellOfBuyer : Cond.code yX9_tellOfBuyer cX9_tellOfBuyer 4 (some .int) ∈ lw_good := tg (tb 476 (by decide +kernel)) rfl
theorem qi_X9_tellOfBuyer : Cond.instanceMethod yX9_tellOfBuyer ∈ lw_good := tg (tb 475 (by decide +kernel)) rfl
theorem ql_X9_tellOfBuyer : Cond.selects "CostsAge" yX9_tellOfBuyer yX9_tellOfBuyer ∈ lw_good := tg (ts 21 (by decide +kernel)) rfl
theorem qc_X9_tellOfWare : Cond.code yX9_tellOfWare cX9_tellOfWare 3 (some .int) ∈ lw_good := tg (tb 491 (by decide +kernel)) rfl
theorem qi_X9_tellOfWare : Cond.instanceMethod yX9_tellOfWare ∈ lw_good := tg (tb 490 (by decide +kernel)) rfl
theorem ql_X9_tellOfWare : Cond.selects "CostsAge" yX9_tellOfWare yX9_tellOfWare ∈ lw_good := tg (ts 24 (by decide +kernel)) rfl
theorem qc_X9_changeCarry : Cond.code yX9_changeCarry cX9_changeCarry 3 (some .int) ∈ lw_good := tg (tb 468 (by decide +kernel)) rfl
theorem qi_X9_changeCarry : Cond.instanceMethod yX9_changeCarry ∈ lw_good := tg (tb 467 (by decide +kernel)) rfl
theorem ql_X9_changeCarry : Cond.selects "CostsAge" yX9_changeCarry yX9_changeCarry ∈ lw_good := tg (ts 20 (by decide +kernel)) rfl
theorem qc_X9_exchange : Cond.code yX9_exchange cX9_exchange 4 (some .int) ∈ lw_good := tg (tb 456 (by decide +kernel)) rfl
theorem qs_X9_exchange : Cond.static yX9_exchange ∈ lw_good := tg (tb 455 (by decide +kernel)) rfl
theorem qc_X9_isWithin : Cond.code yX9_isWithin cX9_isWithin 2 (some .boolean) ∈ lw_good := tg (tb 441 (by decide +kernel)) rfl
theorem qs_X9_isWithin : Cond.static yX9_isWithin ∈ lw_good := tg (tb 440 (by decide +kernel)) rfl
theorem qc_X9_isBuyer : Cond.code yX9_isBuyer cX9_isBuyer 2 (some .boolean) ∈ lw_good := tg (tb 453 (by decide +kernel)) rfl
theorem qi_X9_isBuyer : Cond.instanceMethod yX9_isBuyer ∈ lw_good := tg (tb 452 (by decide +kernel)) rfl
theorem ql_X9_isBuyer : Cond.selects "CostsAge" yX9_isBuyer yX9_isBuyer ∈ lw_good := tg (ts 17 (by decide +kernel)) rfl
theorem qc_X9_isWare : Cond.code yX9_isWare cX9_isWare 2 (some .boolean) ∈ lw_good := tg (tb 464 (by decide +kernel)) rfl
theorem qi_X9_isWare : Cond.instanceMethod yX9_isWare ∈ lw_good := tg (tb 463 (by decide +kernel)) rfl
theorem ql_X9_isWare : Cond.selects "CostsAge" yX9_isWare yX9_isWare ∈ lw_good := tg (ts 19 (by decide +kernel)) rfl
theorem qc_X9_unbought : Cond.code yX9_unbought cX9_unbought 1 (some .int) ∈ lw_good := tg (tb 526 (by decide +kernel)) rfl
theorem qi_X9_unbought : Cond.instanceMethod yX9_unbought ∈ lw_good := tg (tb 525 (by decide +kernel)) rfl
theorem ql_X9_unbought : Cond.selects "CostsAge" yX9_unbought yX9_unbought ∈ lw_good := tg (ts 27 (by decide +kernel)) rfl
theorem qc_X9_has : Cond.code yX9_has cX9_has 2 (some .boolean) ∈ lw_good := tg (tb 529 (by decide +kernel)) rfl
theorem qs_X9_has : Cond.static yX9_has ∈ lw_good := tg (tb 528 (by decide +kernel)) rfl
theorem qc_X9_feed : Cond.code yX9_feed cX9_feed 2 (some .int) ∈ lw_good := tg (tb 495 (by decide +kernel)) rfl
theorem qi_X9_feed : Cond.instanceMethod yX9_feed ∈ lw_good := tg (tb 493 (by decide +kernel)) rfl
theorem ql_X9_feed : Cond.selects "CostsAge" yX9_feed yX9_feed ∈ lw_good := tg (tb 494 (by decide +kernel)) rfl
theorem qc_X9_text : Cond.code yX9_text cX9_text 2 (some .int) ∈ lw_good := tg (tb 499 (by decide +kernel)) rfl
theorem qi_X9_text : Cond.instanceMethod yX9_text ∈ lw_good := tg (tb 497 (by decide +kernel)) rfl
theorem ql_X9_text : Cond.selects "CostsAge" yX9_text yX9_text ∈ lw_good := tg (tb 498 (by decide +kernel)) rfl
theorem qc_X9_force : Cond.code yX9_force cX9_force 3 (some .int) ∈ lw_good := tg (tb 503 (by decide +kernel)) rfl
theorem qi_X9_force : Cond.instanceMethod yX9_force ∈ lw_good := tg (tb 501 (by decide +kernel)) rfl
theorem ql_X9_force : Cond.selects "CostsAge" yX9_force yX9_force ∈ lw_good := tg (tb 502 (by decide +kernel)) rfl
theorem qc_X9_years : Cond.code yX9_years cX9_years 3 (some .int) ∈ lw_good := tg (tb 507 (by decide +kernel)) rfl
theorem qi_X9_years : Cond.instanceMethod yX9_years ∈ lw_good := tg (tb 505 (by decide +kernel)) rfl
theorem ql_X9_years : Cond.selects "CostsAge" yX9_years yX9_years ∈ lw_good := tg (tb 506 (by decide +kernel)) rfl
theorem qc_X9_cost : Cond.code yX9_cost cX9_cost 4 (some .int) ∈ lw_good := tg (tb 518 (by decide +kernel)) rfl
theorem qi_X9_cost : Cond.instanceMethod yX9_cost ∈ lw_good := tg (tb 516 (by decide +kernel)) rfl
theorem ql_X9_cost : Cond.selects "CostsAge" yX9_cost yX9_cost ∈ lw_good := tg (tb 517 (by decide +kernel)) rfl
theorem qc_X9_best : Cond.code yX9_best cX9_best 5 (some .int) ∈ lw_good := tg (tb 557 (by decide +kernel)) rfl
theorem qi_X9_best : Cond.instanceMethod yX9_best ∈ lw_good := tg (tb 555 (by decide +kernel)) rfl
theorem ql_X9_best : Cond.selects "CostsAge" yX9_best yX9_best ∈ lw_good := tg (tb 556 (by decide +kernel)) rfl
theorem qc_X9_when : Cond.code yX9_when cX9_when 7 (some .int) ∈ lw_good := tg (tb 569 (by decide +kernel)) rfl
theorem qi_X9_when : Cond.instanceMethod yX9_when ∈ lw_good := tg (tb 567 (by decide +kernel)) rfl
theorem ql_X9_when : Cond.selects "CostsAge" yX9_when yX9_when ∈ lw_good := tg (tb 568 (by decide +kernel)) rfl
theorem qc_X9_buy : Cond.code yX9_buy cX9_buy 4 (some .int) ∈ lw_good := tg (tb 577 (by decide +kernel)) rfl
theorem qi_X9_buy : Cond.instanceMethod yX9_buy ∈ lw_good := tg (tb 575 (by decide +kernel)) rfl
theorem ql_X9_buy : Cond.selects "CostsAge" yX9_buy yX9_buy ∈ lw_good := tg (tb 576 (by decide +kernel)) rfl
theorem qc_X9_pass : Cond.code yX9_pass cX9_pass 2 (some .int) ∈ lw_good := tg (tb 581 (by decide +kernel)) rfl
theorem qi_X9_pass : Cond.instanceMethod yX9_pass ∈ lw_good := tg (tb 579 (by decide +kernel)) rfl
theorem ql_X9_pass : Cond.selects "CostsAge" yX9_pass yX9_pass ∈ lw_good := tg (tb 580 (by decide +kernel)) rfl
theorem qc_X9_showAlone : Cond.code yX9_showAlone cX9_showAlone 2 (some .boolean) ∈ lw_good := tg (tb 573 (by decide +kernel)) rfl
theorem qi_X9_showAlone : Cond.instanceMethod yX9_showAlone ∈ lw_good := tg (tb 572 (by decide +kernel)) rfl
theorem ql_X9_showAlone : Cond.selects "CostsAge" yX9_showAlone yX9_showAlone ∈ lw_good := tg (ts 34 (by decide +kernel)) rfl
theorem qc_X9_tie : Cond.code yX9_tie cX9_tie 7 (some .boolean) ∈ lw_good := tg (tb 522 (by decide +kernel)) rfl
theorem qi_X9_tie : Cond.instanceMethod yX9_tie ∈ lw_good := tg (tb 521 (by decide +kernel)) rfl
theorem ql_X9_tie : Cond.selects "CostsAge" yX9_tie yX9_tie ∈ lw_good := tg (ts 26 (by decide +kernel)) rfl
theorem qc_X9_priceBy : Cond.code yX9_priceBy cX9_priceBy 8 (some .int) ∈ lw_good := tg (tb 541 (by decide +kernel)) rfl
theorem qi_X9_priceBy : Cond.instanceMethod yX9_priceBy ∈ lw_good := tg (tb 540 (by decide +kernel)) rfl
theorem ql_X9_priceBy : Cond.selects "CostsAge" yX9_priceBy yX9_priceBy ∈ lw_good := tg (ts 30 (by decide +kernel)) rfl
theorem qc_X9_costBy : Cond.code yX9_costBy cX9_costBy 5 (some .int) ∈ lw_good := tg (tb 537 (by decide +kernel)) rfl
theorem qi_X9_costBy : Cond.instanceMethod yX9_costBy ∈ lw_good := tg (tb 536 (by decide +kernel)) rfl
theorem ql_X9_costBy : Cond.selects "CostsAge" yX9_costBy yX9_costBy ∈ lw_good := tg (ts 29 (by decide +kernel)) rfl
theorem qc_X9_leastCost : Cond.code yX9_leastCost cX9_leastCost 5 (some .int) ∈ lw_good := tg (tb 561 (by decide +kernel)) rfl
theorem qi_X9_leastCost : Cond.instanceMethod yX9_leastCost ∈ lw_good := tg (tb 560 (by decide +kernel)) rfl
theorem ql_X9_leastCost : Cond.selects "CostsAge" yX9_leastCost yX9_leastCost ∈ lw_good := tg (ts 32 (by decide +kernel)) rfl
theorem qc_X9_firstBuyerFor : Cond.code yX9_firstBuyerFor cX9_firstBuyerFor 4 (some .int) ∈ lw_good := tg (tb 565 (by decide +kernel)) rfl
theorem qi_X9_firstBuyerFor : Cond.instanceMethod yX9_firstBuyerFor ∈ lw_good := tg (tb 564 (by decide +kernel)) rfl
theorem ql_X9_firstBuyerFor : Cond.selects "CostsAge" yX9_firstBuyerFor yX9_firstBuyerFor ∈ lw_good := tg (ts 33 (by decide +kernel)) rfl
theorem qc_X9_held : Cond.code yX9_held cX9_held 1 (some .int) ∈ lw_good := tg (tb 551 (by decide +kernel)) rfl
theorem qs_X9_held : Cond.static yX9_held ∈ lw_good := tg (tb 550 (by decide +kernel)) rfl
theorem qc_X9_all : Cond.code yX9_all cX9_all 3 (some .int) ∈ lw_good := tg (tb 585 (by decide +kernel)) rfl
theorem qi_X9_all : Cond.instanceMethod yX9_all ∈ lw_good := tg (tb 583 (by decide +kernel)) rfl
theorem ql_X9_all : Cond.selects "CostsAge" yX9_all yX9_all ∈ lw_good := tg (tb 584 (by decide +kernel)) rfl
theorem qc_X9_heap : Cond.code yX9_heap cX9_heap 2 (some .int) ∈ lw_good := tg (tb 607 (by decide +kernel)) rfl
theorem qi_X9_heap : Cond.instanceMethod yX9_heap ∈ lw_good := tg (tb 605 (by decide +kernel)) rfl
theorem ql_X9_heap : Cond.selects "CostsAge" yX9_heap yX9_heap ∈ lw_good := tg (tb 606 (by decide +kernel)) rfl
theorem qc_X9_planAll : Cond.code yX9_planAll cX9_planAll 3 none ∈ lw_good := tg (tb 589 (by decide +kernel)) rfl
theorem qi_X9_planAll : Cond.instanceMethod yX9_planAll ∈ lw_good := tg (tb 588 (by decide +kernel)) rfl
theorem ql_X9_planAll : Cond.selects "CostsAge" yX9_planAll yX9_planAll ∈ lw_good := tg (ts 35 (by decide +kernel)) rfl
theorem qc_X9_eachOne : Cond.code yX9_eachOne cX9_eachOne 6 (some .int) ∈ lw_good := tg (tb 616 (by decide +kernel)) rfl
theorem qi_X9_eachOne : Cond.instanceMethod yX9_eachOne ∈ lw_good := tg (tb 614 (by decide +kernel)) rfl
theorem ql_X9_eachOne : Cond.selects "CostsAge" yX9_eachOne yX9_eachOne ∈ lw_good := tg (tb 615 (by decide +kernel)) rfl
theorem qc_X9_crewCost : Cond.code yX9_crewCost cX9_crewCost 10 (some .int) ∈ lw_good := tg (tb 629 (by decide +kernel)) rfl
theorem qi_X9_crewCost : Cond.instanceMethod yX9_crewCost ∈ lw_good := tg (tb 628 (by decide +kernel)) rfl
theorem ql_X9_crewCost : Cond.selects "CostsAge" yX9_crewCost yX9_crewCost ∈ lw_good := tg (ts 41 (by decide +kernel)) rfl
theorem qc_X9_nthOf : Cond.code yX9_nthOf cX9_nthOf 5 (some .int) ∈ lw_good := tg (tb 633 (by decide +kernel)) rfl
theorem qi_X9_nthOf : Cond.instanceMethod yX9_nthOf ∈ lw_good := tg (tb 632 (by decide +kernel)) rfl
theorem ql_X9_nthOf : Cond.selects "CostsAge" yX9_nthOf yX9_nthOf ∈ lw_good := tg (ts 42 (by decide +kernel)) rfl
theorem qc_X9_gain : Cond.code yX9_gain cX9_gain 8 (some .long) ∈ lw_good := tg (tb 637 (by decide +kernel)) rfl
theorem qi_X9_gain : Cond.instanceMethod yX9_gain ∈ lw_good := tg (tb 635 (by decide +kernel)) rfl
theorem ql_X9_gain : Cond.selects "CostsAge" yX9_gain yX9_gain ∈ lw_good := tg (tb 636 (by decide +kernel)) rfl
theorem qc_X9_gainsNow : Cond.code yX9_gainsNow cX9_gainsNow 2 (some .int) ∈ lw_good := tg (tb 642 (by decide +kernel)) rfl
theorem qi_X9_gainsNow : Cond.instanceMethod yX9_gainsNow ∈ lw_good := tg (tb 641 (by decide +kernel)) rfl
theorem ql_X9_gainsNow : Cond.selects "CostsAge" yX9_gainsNow yX9_gainsNow ∈ lw_good := tg (ts 43 (by decide +kernel)) rfl
theorem qc_X9_year : Cond.code yX9_year cX9_year 3 (some .int) ∈ lw_good := tg (tb 646 (by decide +kernel)) rfl
theorem qi_X9_year : Cond.instanceMethod yX9_year ∈ lw_good := tg (tb 644 (by decide +kernel)) rfl
theorem ql_X9_year : Cond.selects "CostsAge" yX9_year yX9_year ∈ lw_good := tg (tb 645 (by decide +kernel)) rfl
theorem qc_X9_leastInYear : Cond.code yX9_leastInYear cX9_leastInYear 4 (some .int) ∈ lw_good := tg (tb 650 (by decide +kernel)) rfl
theorem qi_X9_leastInYear : Cond.instanceMethod yX9_leastInYear ∈ lw_good := tg (tb 649 (by decide +kernel)) rfl
theorem ql_X9_leastInYear : Cond.selects "CostsAge" yX9_leastInYear yX9_leastInYear ∈ lw_good := tg (ts 44 (by decide +kernel)) rfl
theorem qc_X9_rest : Cond.code yX9_rest cX9_rest 5 (some .int) ∈ lw_good := tg (tb 654 (by decide +kernel)) rfl
theorem qi_X9_rest : Cond.instanceMethod yX9_rest ∈ lw_good := tg (tb 652 (by decide +kernel)) rfl
theorem ql_X9_rest : Cond.selects "CostsAge" yX9_rest yX9_rest ∈ lw_good := tg (tb 653 (by decide +kernel)) rfl
theorem qc_X9_takesBetterFee : Cond.code yX9_takesBetterFee cX9_takesBetterFee 6 (some .boolean) ∈ lw_good := tg (tb 658 (by decide +kernel)) rfl
theorem qi_X9_takesBetterFee : Cond.instanceMethod yX9_takesBetterFee ∈ lw_good := tg (tb 657 (by decide +kernel)) rfl
theorem ql_X9_takesBetterFee : Cond.selects "CostsAge" yX9_takesBetterFee yX9_takesBetterFee ∈ lw_good := tg (ts 45 (by decide +kernel)) rfl
theorem qc_X9_earnsBy : Cond.code yX9_earnsBy cX9_earnsBy 7 (some .int) ∈ lw_good := tg (tb 668 (by decide +kernel)) rfl
theorem qi_X9_earnsBy : Cond.instanceMethod yX9_earnsBy ∈ lw_good := tg (tb 667 (by decide +kernel)) rfl
theorem ql_X9_earnsBy : Cond.selects "CostsAge" yX9_earnsBy yX9_earnsBy ∈ lw_good := tg (ts 47 (by decide +kernel)) rfl
theorem qc_X9_fillCosts : Cond.code yX9_fillCosts cX9_fillCosts 2 none ∈ lw_good := tg (tb 620 (by decide +kernel)) rfl
theorem qi_X9_fillCosts : Cond.instanceMethod yX9_fillCosts ∈ lw_good := tg (tb 619 (by decide +kernel)) rfl
theorem ql_X9_fillCosts : Cond.selects "CostsAge" yX9_fillCosts yX9_fillCosts ∈ lw_good := tg (ts 39 (by decide +kernel)) rfl
theorem qc_X9_fillCostsOf : Cond.code yX9_fillCostsOf cX9_fillCostsOf 4 none ∈ lw_good := tg (tb 624 (by decide +kernel)) rfl
theorem qi_X9_fillCostsOf : Cond.instanceMethod yX9_fillCostsOf ∈ lw_good := tg (tb 623 (by decide +kernel)) rfl
theorem ql_X9_fillCostsOf : Cond.selects "CostsAge" yX9_fillCostsOf yX9_fillCostsOf ∈ lw_good := tg (ts 40 (by decide +kernel)) rfl
theorem qc_X9_lies : Cond.code yX9_lies cX9_lies 5 (some .int) ∈ lw_good := tg (tb 672 (by decide +kernel)) rfl
theorem qi_X9_lies : Cond.instanceMethod yX9_lies ∈ lw_good := tg (tb 670 (by decide +kernel)) rfl
theorem ql_X9_lies : Cond.selects "CostsAge" yX9_lies yX9_lies ∈ lw_good := tg (tb 671 (by decide +kernel)) rfl
theorem qc_X9_judge : Cond.code yX9_judge cX9_judge 9 (some .int) ∈ lw_good := tg (tb 683 (by decide +kernel)) rfl
theorem qi_X9_judge : Cond.instanceMethod yX9_judge ∈ lw_good := tg (tb 681 (by decide +kernel)) rfl
theorem ql_X9_judge : Cond.selects "CostsAge" yX9_judge yX9_judge ∈ lw_good := tg (tb 682 (by decide +kernel)) rfl
theorem qc_X9_priceOfRow : Cond.code yX9_priceOfRow cX9_priceOfRow 4 (some .int) ∈ lw_good := tg (tb 687 (by decide +kernel)) rfl
theorem qi_X9_priceOfRow : Cond.instanceMethod yX9_priceOfRow ∈ lw_good := tg (tb 686 (by decide +kernel)) rfl
theorem ql_X9_priceOfRow : Cond.selects "CostsAge" yX9_priceOfRow yX9_priceOfRow ∈ lw_good := tg (ts 49 (by decide +kernel)) rfl
theorem qc_X9_drawn : Cond.code yX9_drawn cX9_drawn 6 (some .int) ∈ lw_good := tg (tb 691 (by decide +kernel)) rfl
theorem qi_X9_drawn : Cond.instanceMethod yX9_drawn ∈ lw_good := tg (tb 689 (by decide +kernel)) rfl
theorem ql_X9_drawn : Cond.selects "CostsAge" yX9_drawn yX9_drawn ∈ lw_good := tg (tb 690 (by decide +kernel)) rfl
theorem qc_X9_mean : Cond.code yX9_mean cX9_mean 4 (some .long) ∈ lw_good := tg (tb 696 (by decide +kernel)) rfl
theorem qi_X9_mean : Cond.instanceMethod yX9_mean ∈ lw_good := tg (tb 694 (by decide +kernel)) rfl
theorem ql_X9_mean : Cond.selects "CostsAge" yX9_mean yX9_mean ∈ lw_good := tg (tb 695 (by decide +kernel)) rfl
theorem qc_X9_image : Cond.code yX9_image cX9_image 1 (some .int) ∈ lw_good := tg (tb 700 (by decide +kernel)) rfl
theorem qi_X9_image : Cond.instanceMethod yX9_image ∈ lw_good := tg (tb 698 (by decide +kernel)) rfl
theorem ql_X9_image : Cond.selects "CostsAge" yX9_image yX9_image ∈ lw_good := tg (tb 699 (by decide +kernel)) rfl
theorem qc_X9_back : Cond.code yX9_back cX9_back 1 (some .int) ∈ lw_good := tg (tb 711 (by decide +kernel)) rfl
theorem qi_X9_back : Cond.instanceMethod yX9_back ∈ lw_good := tg (tb 709 (by decide +kernel)) rfl
theorem ql_X9_back : Cond.selects "CostsAge" yX9_back yX9_back ∈ lw_good := tg (tb 710 (by decide +kernel)) rfl
theorem qc_X9_count : Cond.code yX9_count cX9_count 2 (some .int) ∈ lw_good := tg (tb 715 (by decide +kernel)) rfl
theorem qi_X9_count : Cond.instanceMethod yX9_count ∈ lw_good := tg (tb 713 (by decide +kernel)) rfl
theorem ql_X9_count : Cond.selects "CostsAge" yX9_count yX9_count ∈ lw_good := tg (tb 714 (by decide +kernel)) rfl
theorem qc_X9_sheet : Cond.code yX9_sheet cX9_sheet 4 (some .int) ∈ lw_good := tg (tb 719 (by decide +kernel)) rfl
theorem qi_X9_sheet : Cond.instanceMethod yX9_sheet ∈ lw_good := tg (tb 717 (by decide +kernel)) rfl
theorem ql_X9_sheet : Cond.selects "CostsAge" yX9_sheet yX9_sheet ∈ lw_good := tg (tb 718 (by decide +kernel)) rfl
theorem qc_X9_cell : Cond.code yX9_cell cX9_cell 5 (some .int) ∈ lw_good := tg (tb 730 (by decide +kernel)) rfl
theorem qi_X9_cell : Cond.instanceMethod yX9_cell ∈ lw_good := tg (tb 728 (by decide +kernel)) rfl
theorem ql_X9_cell : Cond.selects "CostsAge" yX9_cell yX9_cell ∈ lw_good := tg (tb 729 (by decide +kernel)) rfl
theorem qc_X9_copy : Cond.code yX9_copy cX9_copy 8 (some .int) ∈ lw_good := tg (tb 742 (by decide +kernel)) rfl
theorem qi_X9_copy : Cond.instanceMethod yX9_copy ∈ lw_good := tg (tb 740 (by decide +kernel)) rfl
theorem ql_X9_copy : Cond.selects "CostsAge" yX9_copy yX9_copy ∈ lw_good := tg (tb 741 (by decide +kernel)) rfl
theorem qc_X9_things : Cond.code yX9_things cX9_things 9 (some .int) ∈ lw_good := tg (tb 751 (by decide +kernel)) rfl
theorem qi_X9_things : Cond.instanceMethod yX9_things ∈ lw_good := tg (tb 749 (by decide +kernel)) rfl
theorem ql_X9_things : Cond.selects "CostsAge" yX9_things yX9_things ∈ lw_good := tg (tb 750 (by decide +kernel)) rfl
theorem qc_X9_taken : Cond.code yX9_taken cX9_taken 3 (some .int) ∈ lw_good := tg (tb 756 (by decide +kernel)) rfl
theorem qi_X9_taken : Cond.instanceMethod yX9_taken ∈ lw_good := tg (tb 754 (by decide +kernel)) rfl
theorem ql_X9_taken : Cond.selects "CostsAge" yX9_taken yX9_taken ∈ lw_good := tg (tb 755 (by decide +kernel)) rfl
theorem qc_X9_isSheet : Cond.code yX9_isSheet cX9_isSheet 1 (some .boolean) ∈ lw_good := tg (tb 675 (by decide +kernel)) rfl
theorem qs_X9_isSheet : Cond.static yX9_isSheet ∈ lw_good := tg (tb 674 (by decide +kernel)) rfl
theorem qc_X9_isSort : Cond.code yX9_isSort cX9_isSort 1 (some .boolean) ∈ lw_good := tg (tb 722 (by decide +kernel)) rfl
theorem qs_X9_isSort : Cond.static yX9_isSort ∈ lw_good := tg (tb 721 (by decide +kernel)) rfl
theorem qc_X10_in : Cond.code yX10_in cX10_in 6 (some .boolean) ∈ lw_good := tg (tb 964 (by decide +kernel)) rfl
theorem qs_X10_in : Cond.static yX10_in ∈ lw_good := tg (tb 963 (by decide +kernel)) rfl
theorem qc_X10_within : Cond.code yX10_within cX10_within 3 (some .int) ∈ lw_good := tg (tb 1122 (by decide +kernel)) rfl
theorem qs_X10_within : Cond.static yX10_within ∈ lw_good := tg (tb 1121 (by decide +kernel)) rfl
theorem qc_X10_bitsOf : Cond.code yX10_bitsOf cX10_bitsOf 3 (some .int) ∈ lw_good := tg (tb 1107 (by decide +kernel)) rfl
theorem qs_X10_bitsOf : Cond.static yX10_bitsOf ∈ lw_good := tg (tb 1106 (by decide +kernel)) rfl
theorem qc_X10_init : Cond.code yX10_init cX10_init 1 none ∈ lw_good := tg (tb 767 (by decide +kernel)) rfl
theorem qi_X10_init : Cond.instanceMethod yX10_init ∈ lw_good := tg (tb 766 (by decide +kernel)) rfl
theorem qc_X10_spell : Cond.code yX10_spell cX10_spell 10 none ∈ lw_good := tg (tb 772 (by decide +kernel)) rfl
theorem qi_X10_spell : Cond.instanceMethod yX10_spell ∈ lw_good := tg (tb 771 (by decide +kernel)) rfl
theorem ql_X10_spell : Cond.selects "CostsAgeModel" yX10_spell yX10_spell ∈ lw_good := tg (ts 56 (by decide +kernel)) rfl
theorem qc_X10_isBuyer : Cond.code yX10_isBuyer cX10_isBuyer 2 (some .boolean) ∈ lw_good := tg (tb 985 (by decide +kernel)) rfl
theorem qi_X10_isBuyer : Cond.instanceMethod yX10_isBuyer ∈ lw_good := tg (tb 984 (by decide +kernel)) rfl
theorem ql_X10_isBuyer : Cond.selects "CostsAgeModel" yX10_isBuyer yX10_isBuyer ∈ lw_good := tg (ts 58 (by decide +kernel)) rfl
theorem qc_X10_isThing : Cond.code yX10_isThing cX10_isThing 2 (some .boolean) ∈ lw_good := tg (tb 981 (by decide +kernel)) rfl
theorem qi_X10_isThing : Cond.instanceMethod yX10_isThing ∈ lw_good := tg (tb 980 (by decide +kernel)) rfl
theorem ql_X10_isThing : Cond.selects "CostsAgeModel" yX10_isThing yX10_isThing ∈ lw_good := tg (ts 57 (by decide +kernel)) rfl
theorem qc_X10_left : Cond.code yX10_left cX10_left 1 (some .int) ∈ lw_good := tg (tb 1104 (by decide +kernel)) rfl
theorem qi_X10_left : Cond.instanceMethod yX10_left ∈ lw_good := tg (tb 1103 (by decide +kernel)) rfl
theorem ql_X10_left : Cond.selects "CostsAgeModel" yX10_left yX10_left ∈ lw_good := tg (ts 79 (by decide +kernel)) rfl
theorem qc_X10_buyer : Cond.code yX10_buyer cX10_buyer 4 (some .int) ∈ lw_good := tg (tb 960 (by decide +kernel)) rfl
theorem qi_X10_buyer : Cond.instanceMethod yX10_buyer ∈ lw_good := tg (tb 958 (by decide +kernel)) rfl
theorem ql_X10_buyer : Cond.selects "CostsAgeModel" yX10_buyer yX10_buyer ∈ lw_good := tg (tb 959 (by decide +kernel)) rfl
theorem qc_X10_thing : Cond.code yX10_thing cX10_thing 3 (some .int) ∈ lw_good := tg (tb 970 (by decide +kernel)) rfl
theorem qi_X10_thing : Cond.instanceMethod yX10_thing ∈ lw_good := tg (tb 968 (by decide +kernel)) rfl
theorem ql_X10_thing : Cond.selects "CostsAgeModel" yX10_thing yX10_thing ∈ lw_good := tg (tb 969 (by decide +kernel)) rfl
theorem qc_X10_set : Cond.code yX10_set cX10_set 5 (some .int) ∈ lw_good := tg (tb 975 (by decide +kernel)) rfl
theorem qi_X10_set : Cond.instanceMethod yX10_set ∈ lw_good := tg (tb 973 (by decide +kernel)) rfl
theorem ql_X10_set : Cond.selects "CostsAgeModel" yX10_set yX10_set ∈ lw_good := tg (tb 974 (by decide +kernel)) rfl
theorem qc_X10_pence : Cond.code yX10_pence cX10_pence 6 (some .int) ∈ lw_good := tg (tb 996 (by decide +kernel)) rfl
theorem qi_X10_pence : Cond.instanceMethod yX10_pence ∈ lw_good := tg (tb 995 (by decide +kernel)) rfl
theorem ql_X10_pence : Cond.selects "CostsAgeModel" yX10_pence yX10_pence ∈ lw_good := tg (ts 59 (by decide +kernel)) rfl
theorem qc_X10_asks : Cond.code yX10_asks cX10_asks 4 (some .int) ∈ lw_good := tg (tb 1000 (by decide +kernel)) rfl
theorem qi_X10_asks : Cond.instanceMethod yX10_asks ∈ lw_good := tg (tb 999 (by decide +kernel)) rfl
theorem ql_X10_asks : Cond.selects "CostsAgeModel" yX10_asks yX10_asks ∈ lw_good := tg (ts 60 (by decide +kernel)) rfl
theorem qc_X10_told : Cond.code yX10_told cX10_told 3 (some .int) ∈ lw_good := tg (tb 991 (by decide +kernel)) rfl
theorem qi_X10_told : Cond.instanceMethod yX10_told ∈ lw_good := tg (tb 989 (by decide +kernel)) rfl
theorem ql_X10_told : Cond.selects "CostsAgeModel" yX10_told yX10_told ∈ lw_good := tg (tb 990 (by decide +kernel)) rfl
theorem qc_X10_feed : Cond.code yX10_feed cX10_feed 2 (some .int) ∈ lw_good := tg (tb 1004 (by decide +kernel)) rfl
theorem qi_X10_feed : Cond.instanceMethod yX10_feed ∈ lw_good := tg (tb 1002 (by decide +kernel)) rfl
theorem ql_X10_feed : Cond.selects "CostsAgeModel" yX10_feed yX10_feed ∈ lw_good := tg (tb 1003 (by decide +kernel)) rfl
theorem qc_X10_byteAt : Cond.code yX10_byteAt cX10_byteAt 2 (some .int) ∈ lw_good := tg (tb 1021 (by decide +kernel)) rfl
theorem qi_X10_byteAt : Cond.instanceMethod yX10_byteAt ∈ lw_good := tg (tb 1020 (by decide +kernel)) rfl
theorem ql_X10_byteAt : Cond.selects "CostsAgeModel" yX10_byteAt yX10_byteAt ∈ lw_good := tg (ts 63 (by decide +kernel)) rfl
theorem qc_X10_next : Cond.code yX10_next cX10_next 3 none ∈ lw_good := tg (tb 1017 (by decide +kernel)) rfl
theorem qi_X10_next : Cond.instanceMethod yX10_next ∈ lw_good := tg (tb 1016 (by decide +kernel)) rfl
theorem ql_X10_next : Cond.selects "CostsAgeModel" yX10_next yX10_next ∈ lw_good := tg (ts 62 (by decide +kernel)) rfl
theorem qc_X10_fail : Cond.code yX10_fail cX10_fail 1 none ∈ lw_good := tg (tb 1041 (by decide +kernel)) rfl
theorem qi_X10_fail : Cond.instanceMethod yX10_fail ∈ lw_good := tg (tb 1040 (by decide +kernel)) rfl
theorem ql_X10_fail : Cond.selects "CostsAgeModel" yX10_fail yX10_fail ∈ lw_good := tg (ts 67 (by decide +kernel)) rfl
theorem qc_X10_isLetter : Cond.code yX10_isLetter cX10_isLetter 3 (some .boolean) ∈ lw_good := tg (tb 1033 (by decide +kernel)) rfl
theorem qi_X10_isLetter : Cond.instanceMethod yX10_isLetter ∈ lw_good := tg (tb 1032 (by decide +kernel)) rfl
theorem ql_X10_isLetter : Cond.selects "CostsAgeModel" yX10_isLetter yX10_isLetter ∈ lw_good := tg (ts 65 (by decide +kernel)) rfl
theorem qc_X10_isWord : Cond.code yX10_isWord cX10_isWord 9 (some .boolean) ∈ lw_good := tg (tb 1029 (by decide +kernel)) rfl
theorem qi_X10_isWord : Cond.instanceMethod yX10_isWord ∈ lw_good := tg (tb 1028 (by decide +kernel)) rfl
theorem ql_X10_isWord : Cond.selects "CostsAgeModel" yX10_isWord yX10_isWord ∈ lw_good := tg (ts 64 (by decide +kernel)) rfl
theorem qc_X10_isSign : Cond.code yX10_isSign cX10_isSign 2 (some .boolean) ∈ lw_good := tg (tb 1073 (by decide +kernel)) rfl
theorem qi_X10_isSign : Cond.instanceMethod yX10_isSign ∈ lw_good := tg (tb 1072 (by decide +kernel)) rfl
theorem ql_X10_isSign : Cond.selects "CostsAgeModel" yX10_isSign yX10_isSign ∈ lw_good := tg (ts 75 (by decide +kernel)) rfl
theorem qc_X10_opens : Cond.code yX10_opens cX10_opens 1 (some .boolean) ∈ lw_good := tg (tb 1057 (by decide +kernel)) rfl
theorem qi_X10_opens : Cond.instanceMethod yX10_opens ∈ lw_good := tg (tb 1056 (by decide +kernel)) rfl
theorem ql_X10_opens : Cond.selects "CostsAgeModel" yX10_opens yX10_opens ∈ lw_good := tg (ts 71 (by decide +kernel)) rfl
theorem qc_X10_name : Cond.code yX10_name cX10_name 1 (some .int) ∈ lw_good := tg (tb 1077 (by decide +kernel)) rfl
theorem qi_X10_name : Cond.instanceMethod yX10_name ∈ lw_good := tg (tb 1076 (by decide +kernel)) rfl
theorem ql_X10_name : Cond.selects "CostsAgeModel" yX10_name yX10_name ∈ lw_good := tg (ts 76 (by decide +kernel)) rfl
theorem qc_X10_atom : Cond.code yX10_atom cX10_atom 2 (some .int) ∈ lw_good := tg (tb 1069 (by decide +kernel)) rfl
theorem qi_X10_atom : Cond.instanceMethod yX10_atom ∈ lw_good := tg (tb 1068 (by decide +kernel)) rfl
theorem ql_X10_atom : Cond.selects "CostsAgeModel" yX10_atom yX10_atom ∈ lw_good := tg (ts 74 (by decide +kernel)) rfl
theorem qc_X10_term : Cond.code yX10_term cX10_term 2 (some .int) ∈ lw_good := tg (tb 1065 (by decide +kernel)) rfl
theorem qi_X10_term : Cond.instanceMethod yX10_term ∈ lw_good := tg (tb 1064 (by decide +kernel)) rfl
theorem ql_X10_term : Cond.selects "CostsAgeModel" yX10_term yX10_term ∈ lw_good := tg (ts 73 (by decide +kernel)) rfl
theorem qc_X10_added : Cond.code yX10_added cX10_added 4 (some .int) ∈ lw_good := tg (tb 1061 (by decide +kernel)) rfl
theorem qi_X10_added : Cond.instanceMethod yX10_added ∈ lw_good := tg (tb 1060 (by decide +kernel)) rfl
theorem ql_X10_added : Cond.selects "CostsAgeModel" yX10_added yX10_added ∈ lw_good := tg (ts 72 (by decide +kernel)) rfl
theorem qc_X10_not : Cond.code yX10_not cX10_not 4 (some .int) ∈ lw_good := tg (tb 1053 (by decide +kernel)) rfl
theorem qi_X10_not : Cond.instanceMethod yX10_not ∈ lw_good := tg (tb 1052 (by decide +kernel)) rfl
theorem ql_X10_not : Cond.selects "CostsAgeModel" yX10_not yX10_not ∈ lw_good := tg (ts 70 (by decide +kernel)) rfl
theorem qc_X10_both : Cond.code yX10_both cX10_both 3 (some .int) ∈ lw_good := tg (tb 1049 (by decide +kernel)) rfl
theorem qi_X10_both : Cond.instanceMethod yX10_both ∈ lw_good := tg (tb 1048 (by decide +kernel)) rfl
theorem ql_X10_both : Cond.selects "CostsAgeModel" yX10_both yX10_both ∈ lw_good := tg (ts 69 (by decide +kernel)) rfl
theorem qc_X10_either : Cond.code yX10_either cX10_either 3 (some .int) ∈ lw_good := tg (tb 1045 (by decide +kernel)) rfl
theorem qi_X10_either : Cond.instanceMethod yX10_either ∈ lw_good := tg (tb 1044 (by decide +kernel)) rfl
theorem ql_X10_either : Cond.selects "CostsAgeModel" yX10_either yX10_either ∈ lw_good := tg (ts 68 (by decide +kernel)) rfl
theorem qc_X10_part : Cond.code yX10_part cX10_part 3 (some .int) ∈ lw_good := tg (tb 1037 (by decide +kernel)) rfl
theorem qi_X10_part : Cond.instanceMethod yX10_part ∈ lw_good := tg (tb 1036 (by decide +kernel)) rfl
theorem ql_X10_part : Cond.selects "CostsAgeModel" yX10_part yX10_part ∈ lw_good := tg (ts 66 (by decide +kernel)) rfl
theorem qc_X10_read : Cond.code yX10_read cX10_read 6 (some .int) ∈ lw_good := tg (tb 1013 (by decide +kernel)) rfl
theorem qi_X10_read : Cond.instanceMethod yX10_read ∈ lw_good := tg (tb 1012 (by decide +kernel)) rfl
theorem ql_X10_read : Cond.selects "CostsAgeModel" yX10_read yX10_read ∈ lw_good := tg (ts 61 (by decide +kernel)) rfl
theorem qc_X10_text : Cond.code yX10_text cX10_text 2 (some .int) ∈ lw_good := tg (tb 1009 (by decide +kernel)) rfl
theorem qi_X10_text : Cond.instanceMethod yX10_text ∈ lw_good := tg (tb 1007 (by decide +kernel)) rfl
theorem ql_X10_text : Cond.selects "CostsAgeModel" yX10_text yX10_text ∈ lw_good := tg (tb 1008 (by decide +kernel)) rfl
theorem qc_X10_force : Cond.code yX10_force cX10_force 3 (some .int) ∈ lw_good := tg (tb 1083 (by decide +kernel)) rfl
theorem qi_X10_force : Cond.instanceMethod yX10_force ∈ lw_good := tg (tb 1081 (by decide +kernel)) rfl
theorem ql_X10_force : Cond.selects "CostsAgeModel" yX10_force yX10_force ∈ lw_good := tg (tb 1082 (by decide +kernel)) rfl
theorem qc_X10_yearsIn : Cond.code yX10_yearsIn cX10_yearsIn 5 (some .int) ∈ lw_good := tg (tb 1092 (by decide +kernel)) rfl
theorem qi_X10_yearsIn : Cond.instanceMethod yX10_yearsIn ∈ lw_good := tg (tb 1091 (by decide +kernel)) rfl
theorem ql_X10_yearsIn : Cond.selects "CostsAgeModel" yX10_yearsIn yX10_yearsIn ∈ lw_good := tg (ts 77 (by decide +kernel)) rfl
theorem qc_X10_years : Cond.code yX10_years cX10_years 3 (some .int) ∈ lw_good := tg (tb 1087 (by decide +kernel)) rfl
theorem qi_X10_years : Cond.instanceMethod yX10_years ∈ lw_good := tg (tb 1085 (by decide +kernel)) rfl
theorem ql_X10_years : Cond.selects "CostsAgeModel" yX10_years yX10_years ∈ lw_good := tg (tb 1086 (by decide +kernel)) rfl
theorem qc_X10_about : Cond.code yX10_about cX10_about 5 none ∈ lw_good := tg (tb 1119 (by decide +kernel)) rfl
theorem qi_X10_about : Cond.instanceMethod yX10_about ∈ lw_good := tg (tb 1118 (by decide +kernel)) rfl
theorem ql_X10_about : Cond.selects "CostsAgeModel" yX10_about yX10_about ∈ lw_good := tg (ts 82 (by decide +kernel)) rfl
theorem qc_X10_taking : Cond.code yX10_taking cX10_taking 4 (some .int) ∈ lw_good := tg (tb 1115 (by decide +kernel)) rfl
theorem qi_X10_taking : Cond.instanceMethod yX10_taking ∈ lw_good := tg (tb 1114 (by decide +kernel)) rfl
theorem ql_X10_taking : Cond.selects "CostsAgeModel" yX10_taking yX10_taking ∈ lw_good := tg (ts 81 (by decide +kernel)) rfl
theorem qc_X10_costOf : Cond.code yX10_costOf cX10_costOf 5 (some .int) ∈ lw_good := tg (tb 1111 (by decide +kernel)) rfl
theorem qi_X10_costOf : Cond.instanceMethod yX10_costOf ∈ lw_good := tg (tb 1110 (by decide +kernel)) rfl
theorem ql_X10_costOf : Cond.selects "CostsAgeModel" yX10_costOf yX10_costOf ∈ lw_good := tg (ts 80 (by decide +kernel)) rfl
theorem qc_X10_mayBeTied : Cond.code yX10_mayBeTied cX10_mayBeTied 4 (some .boolean) ∈ lw_good := tg (tb 1100 (by decide +kernel)) rfl
theorem qi_X10_mayBeTied : Cond.instanceMethod yX10_mayBeTied ∈ lw_good := tg (tb 1099 (by decide +kernel)) rfl
theorem ql_X10_mayBeTied : Cond.selects "CostsAgeModel" yX10_mayBeTied yX10_mayBeTied ∈ lw_good := tg (ts 78 (by decide +kernel)) rfl
theorem qc_X10_cost : Cond.code yX10_cost cX10_cost 4 (some .int) ∈ lw_good := tg (tb 1096 (by decide +kernel)) rfl
theorem qi_X10_cost : Cond.instanceMethod yX10_cost ∈ lw_good := tg (tb 1094 (by decide +kernel)) rfl
theorem ql_X10_cost : Cond.selects "CostsAgeModel" yX10_cost yX10_cost ∈ lw_good := tg (tb 1095 (by decide +kernel)) rfl
theorem qc_X10_bestOf : Cond.code yX10_bestOf cX10_bestOf 6 (some .int) ∈ lw_good := tg (tb 1130 (by decide +kernel)) rfl
theorem qi_X10_bestOf : Cond.instanceMethod yX10_bestOf ∈ lw_good := tg (tb 1129 (by decide +kernel)) rfl
theorem ql_X10_bestOf : Cond.selects "CostsAgeModel" yX10_bestOf yX10_bestOf ∈ lw_good := tg (ts 83 (by decide +kernel)) rfl
theorem qc_X10_best : Cond.code yX10_best cX10_best 5 (some .int) ∈ lw_good := tg (tb 1126 (by decide +kernel)) rfl
theorem qi_X10_best : Cond.instanceMethod yX10_best ∈ lw_good := tg (tb 1124 (by decide +kernel)) rfl
theorem ql_X10_best : Cond.selects "CostsAgeModel" yX10_best yX10_best ∈ lw_good := tg (tb 1125 (by decide +kernel)) rfl
theorem qc_X10_whenLeast : Cond.code yX10_whenLeast cX10_whenLeast 5 (some .int) ∈ lw_good := tg (tb 1138 (by decide +kernel)) rfl
theorem qi_X10_whenLeast : Cond.instanceMethod yX10_whenLeast ∈ lw_good := tg (tb 1137 (by decide +kernel)) rfl
theorem ql_X10_whenLeast : Cond.selects "CostsAgeModel" yX10_whenLeast yX10_whenLeast ∈ lw_good := tg (ts 84 (by decide +kernel)) rfl
theorem qc_X10_when : Cond.code yX10_when cX10_when 4 (some .int) ∈ lw_good := tg (tb 1134 (by decide +kernel)) rfl
theorem qi_X10_when : Cond.instanceMethod yX10_when ∈ lw_good := tg (tb 1132 (by decide +kernel)) rfl
theorem ql_X10_when : Cond.selects "CostsAgeModel" yX10_when yX10_when ∈ lw_good := tg (tb 1133 (by decide +kernel)) rfl
theorem qc_X10_buy : Cond.code yX10_buy cX10_buy 4 (some .int) ∈ lw_good := tg (tb 1142 (by decide +kernel)) rfl
theorem qi_X10_buy : Cond.instanceMethod yX10_buy ∈ lw_good := tg (tb 1140 (by decide +kernel)) rfl
theorem ql_X10_buy : Cond.selects "CostsAgeModel" yX10_buy yX10_buy ∈ lw_good := tg (tb 1141 (by decide +kernel)) rfl
theorem qc_X10_pass : Cond.code yX10_pass cX10_pass 2 (some .int) ∈ lw_good := tg (tb 1146 (by decide +kernel)) rfl
theorem qi_X10_pass : Cond.instanceMethod yX10_pass ∈ lw_good := tg (tb 1144 (by decide +kernel)) rfl
theorem ql_X10_pass : Cond.selects "CostsAgeModel" yX10_pass yX10_pass ∈ lw_good := tg (tb 1145 (by decide +kernel)) rfl
theorem qc_X10_plans : Cond.code yX10_plans cX10_plans 7 none ∈ lw_good := tg (tb 1154 (by decide +kernel)) rfl
theorem qi_X10_plans : Cond.instanceMethod yX10_plans ∈ lw_good := tg (tb 1153 (by decide +kernel)) rfl
theorem ql_X10_plans : Cond.selects "CostsAgeModel" yX10_plans yX10_plans ∈ lw_good := tg (ts 85 (by decide +kernel)) rfl
theorem qc_X10_all : Cond.code yX10_all cX10_all 3 (some .int) ∈ lw_good := tg (tb 1150 (by decide +kernel)) rfl
theorem qi_X10_all : Cond.instanceMethod yX10_all ∈ lw_good := tg (tb 1148 (by decide +kernel)) rfl
theorem ql_X10_all : Cond.selects "CostsAgeModel" yX10_all yX10_all ∈ lw_good := tg (tb 1149 (by decide +kernel)) rfl
theorem qc_X10_heap : Cond.code yX10_heap cX10_heap 3 (some .int) ∈ lw_good := tg (tb 1158 (by decide +kernel)) rfl
theorem qi_X10_heap : Cond.instanceMethod yX10_heap ∈ lw_good := tg (tb 1156 (by decide +kernel)) rfl
theorem ql_X10_heap : Cond.selects "CostsAgeModel" yX10_heap yX10_heap ∈ lw_good := tg (tb 1157 (by decide +kernel)) rfl
theorem qc_X10_eachOne : Cond.code yX10_eachOne cX10_eachOne 6 (some .int) ∈ lw_good := tg (tb 1162 (by decide +kernel)) rfl
theorem qi_X10_eachOne : Cond.instanceMethod yX10_eachOne ∈ lw_good := tg (tb 1160 (by decide +kernel)) rfl
theorem ql_X10_eachOne : Cond.selects "CostsAgeModel" yX10_eachOne yX10_eachOne ∈ lw_good := tg (tb 1161 (by decide +kernel)) rfl
theorem qc_X10_gain : Cond.code yX10_gain cX10_gain 8 (some .long) ∈ lw_good := tg (tb 1166 (by decide +kernel)) rfl
theorem qi_X10_gain : Cond.instanceMethod yX10_gain ∈ lw_good := tg (tb 1164 (by decide +kernel)) rfl
theorem ql_X10_gain : Cond.selects "CostsAgeModel" yX10_gain yX10_gain ∈ lw_good := tg (tb 1165 (by decide +kernel)) rfl
theorem qc_X10_year : Cond.code yX10_year cX10_year 3 (some .int) ∈ lw_good := tg (tb 1171 (by decide +kernel)) rfl
theorem qi_X10_year : Cond.instanceMethod yX10_year ∈ lw_good := tg (tb 1169 (by decide +kernel)) rfl
theorem ql_X10_year : Cond.selects "CostsAgeModel" yX10_year yX10_year ∈ lw_good := tg (tb 1170 (by decide +kernel)) rfl
theorem qc_X10_earns : Cond.code yX10_earns cX10_earns 4 (some .int) ∈ lw_good := tg (tb 1179 (by decide +kernel)) rfl
theorem qi_X10_earns : Cond.instanceMethod yX10_earns ∈ lw_good := tg (tb 1178 (by decide +kernel)) rfl
theorem ql_X10_earns : Cond.selects "CostsAgeModel" yX10_earns yX10_earns ∈ lw_good := tg (ts 86 (by decide +kernel)) rfl
theorem qc_X10_rest : Cond.code yX10_rest cX10_rest 10 (some .int) ∈ lw_good := tg (tb 1175 (by decide +kernel)) rfl
theorem qi_X10_rest : Cond.instanceMethod yX10_rest ∈ lw_good := tg (tb 1173 (by decide +kernel)) rfl
theorem ql_X10_rest : Cond.selects "CostsAgeModel" yX10_rest yX10_rest ∈ lw_good := tg (tb 1174 (by decide +kernel)) rfl
theorem qc_X10_lies : Cond.code yX10_lies cX10_lies 4 (some .int) ∈ lw_good := tg (tb 1183 (by decide +kernel)) rfl
theorem qi_X10_lies : Cond.instanceMethod yX10_lies ∈ lw_good := tg (tb 1181 (by decide +kernel)) rfl
theorem ql_X10_lies : Cond.selects "CostsAgeModel" yX10_lies yX10_lies ∈ lw_good := tg (tb 1182 (by decide +kernel)) rfl
theorem qc_X10_judge : Cond.code yX10_judge cX10_judge 10 (some .int) ∈ lw_good := tg (tb 1191 (by decide +kernel)) rfl
theorem qi_X10_judge : Cond.instanceMethod yX10_judge ∈ lw_good := tg (tb 1189 (by decide +kernel)) rfl
theorem ql_X10_judge : Cond.selects "CostsAgeModel" yX10_judge yX10_judge ∈ lw_good := tg (tb 1190 (by decide +kernel)) rfl
theorem qc_X10_drawn : Cond.code yX10_drawn cX10_drawn 6 (some .int) ∈ lw_good := tg (tb 1195 (by decide +kernel)) rfl
theorem qi_X10_drawn : Cond.instanceMethod yX10_drawn ∈ lw_good := tg (tb 1193 (by decide +kernel)) rfl
theorem ql_X10_drawn : Cond.selects "CostsAgeModel" yX10_drawn yX10_drawn ∈ lw_good := tg (tb 1194 (by decide +kernel)) rfl
theorem qc_X10_mean : Cond.code yX10_mean cX10_mean 10 (some .long) ∈ lw_good := tg (tb 1200 (by decide +kernel)) rfl
theorem qi_X10_mean : Cond.instanceMethod yX10_mean ∈ lw_good := tg (tb 1198 (by decide +kernel)) rfl
theorem ql_X10_mean : Cond.selects "CostsAgeModel" yX10_mean yX10_mean ∈ lw_good := tg (tb 1199 (by decide +kernel)) rfl
theorem qc_X10_image : Cond.code yX10_image cX10_image 2 (some .int) ∈ lw_good := tg (tb 1204 (by decide +kernel)) rfl
theorem qi_X10_image : Cond.instanceMethod yX10_image ∈ lw_good := tg (tb 1202 (by decide +kernel)) rfl
theorem ql_X10_image : Cond.selects "CostsAgeModel" yX10_image yX10_image ∈ lw_good := tg (tb 1203 (by decide +kernel)) rfl
theorem qc_X10_back : Cond.code yX10_back cX10_back 2 (some .int) ∈ lw_good := tg (tb 1208 (by decide +kernel)) rfl
theorem qi_X10_back : Cond.instanceMethod yX10_back ∈ lw_good := tg (tb 1206 (by decide +kernel)) rfl
theorem ql_X10_back : Cond.selects "CostsAgeModel" yX10_back yX10_back ∈ lw_good := tg (tb 1207 (by decide +kernel)) rfl
theorem qc_X10_count : Cond.code yX10_count cX10_count 2 (some .int) ∈ lw_good := tg (tb 1212 (by decide +kernel)) rfl
theorem qi_X10_count : Cond.instanceMethod yX10_count ∈ lw_good := tg (tb 1210 (by decide +kernel)) rfl
theorem ql_X10_count : Cond.selects "CostsAgeModel" yX10_count yX10_count ∈ lw_good := tg (tb 1211 (by decide +kernel)) rfl
theorem qc_X10_isSheet : Cond.code yX10_isSheet cX10_isSheet 1 (some .boolean) ∈ lw_good := tg (tb 1186 (by decide +kernel)) rfl
theorem qs_X10_isSheet : Cond.static yX10_isSheet ∈ lw_good := tg (tb 1185 (by decide +kernel)) rfl
theorem qc_X10_sheet : Cond.code yX10_sheet cX10_sheet 5 (some .int) ∈ lw_good := tg (tb 1216 (by decide +kernel)) rfl
theorem qi_X10_sheet : Cond.instanceMethod yX10_sheet ∈ lw_good := tg (tb 1214 (by decide +kernel)) rfl
theorem ql_X10_sheet : Cond.selects "CostsAgeModel" yX10_sheet yX10_sheet ∈ lw_good := tg (tb 1215 (by decide +kernel)) rfl
theorem qc_X10_cell : Cond.code yX10_cell cX10_cell 4 (some .int) ∈ lw_good := tg (tb 1222 (by decide +kernel)) rfl
theorem qi_X10_cell : Cond.instanceMethod yX10_cell ∈ lw_good := tg (tb 1220 (by decide +kernel)) rfl
theorem ql_X10_cell : Cond.selects "CostsAgeModel" yX10_cell yX10_cell ∈ lw_good := tg (tb 1221 (by decide +kernel)) rfl
theorem qc_X10_copy : Cond.code yX10_copy cX10_copy 9 (some .int) ∈ lw_good := tg (tb 1226 (by decide +kernel)) rfl
theorem qi_X10_copy : Cond.instanceMethod yX10_copy ∈ lw_good := tg (tb 1224 (by decide +kernel)) rfl
theorem ql_X10_copy : Cond.selects "CostsAgeModel" yX10_copy yX10_copy ∈ lw_good := tg (tb 1225 (by decide +kernel)) rfl
theorem qc_X10_things : Cond.code yX10_things cX10_things 8 (some .int) ∈ lw_good := tg (tb 1230 (by decide +kernel)) rfl
theorem qi_X10_things : Cond.instanceMethod yX10_things ∈ lw_good := tg (tb 1228 (by decide +kernel)) rfl
theorem ql_X10_things : Cond.selects "CostsAgeModel" yX10_things yX10_things ∈ lw_good := tg (tb 1229 (by decide +kernel)) rfl
theorem qc_X10_over : Cond.code yX10_over cX10_over 1 (some .int) ∈ lw_good := tg (tb 1239 (by decide +kernel)) rfl
theorem qs_X10_over : Cond.static yX10_over ∈ lw_good := tg (tb 1238 (by decide +kernel)) rfl
theorem qc_X10_taken : Cond.code yX10_taken cX10_taken 4 (some .int) ∈ lw_good := tg (tb 1236 (by decide +kernel)) rfl
theorem qi_X10_taken : Cond.instanceMethod yX10_taken ∈ lw_good := tg (tb 1234 (by decide +kernel)) rfl
theorem ql_X10_taken : Cond.selects "CostsAgeModel" yX10_taken yX10_taken ∈ lw_good := tg (tb 1235 (by decide +kernel)) rfl
theorem qc_J6_bitCount_0f7a4 : Cond.code yJ6_bitCount_0f7a4 cJ6_bitCount_0f7a4 1 (some .int) ∈ lw_good := tg (tb 596 (by decide +kernel)) rfl
theorem qs_J6_bitCount_0f7a4 : Cond.static yJ6_bitCount_0f7a4 ∈ lw_good := tg (tb 595 (by decide +kernel)) rfl
theorem qc_J9_max_7cf53 : Cond.code yJ9_max_7cf53 cJ9_max_7cf53 2 (some .int) ∈ lw_good := tg (tb 483 (by decide +kernel)) rfl
theorem qs_J9_max_7cf53 : Cond.static yJ9_max_7cf53 ∈ lw_good := tg (tb 482 (by decide +kernel)) rfl
theorem qc_J9_min_7cf53 : Cond.code yJ9_min_7cf53 cJ9_min_7cf53 2 (some .int) ∈ lw_good := tg (tb 514 (by decide +kernel)) rfl
theorem qs_J9_min_7cf53 : Cond.static yJ9_min_7cf53 ∈ lw_good := tg (tb 513 (by decide +kernel)) rfl
theorem qc_J0_length_8abf5 : Cond.code yJ0_length_8abf5 cJ0_length_8abf5 1 (some .int) ∈ lw_good := tg (tb 255 (by decide +kernel)) rfl
theorem qi_J0_length_8abf5 : Cond.instanceMethod yJ0_length_8abf5 ∈ lw_good := tg (tb 253 (by decide +kernel)) rfl
theorem ql_J0_length_8abf5 : Cond.selects "java/lang/String" yJ0_length_8abf5 yJ0_length_8abf5 ∈ lw_good := tg (tb 254 (by decide +kernel)) rfl
theorem qc_J0_charAt_5068e : Cond.code yJ0_charAt_5068e cJ0_charAt_5068e 2 (some .char) ∈ lw_good := tg (tb 265 (by decide +kernel)) rfl
theorem qi_J0_charAt_5068e : Cond.instanceMethod yJ0_charAt_5068e ∈ lw_good := tg (tb 263 (by decide +kernel)) rfl
theorem ql_J0_charAt_5068e : Cond.selects "java/lang/String" yJ0_charAt_5068e yJ0_charAt_5068e ∈ lw_good := tg (tb 264 (by decide +kernel)) rfl
theorem qc_J0_coder_7d493 : Cond.code yJ0_coder_7d493 cJ0_coder_7d493 1 (some .byte) ∈ lw_good := tg (tb 259 (by decide +kernel)) rfl
theorem qi_J0_coder_7d493 : Cond.instanceMethod yJ0_coder_7d493 ∈ lw_good := tg (tb 257 (by decide +kernel)) rfl
theorem ql_J0_coder_7d493 : Cond.selects "java/lang/String" yJ0_coder_7d493 yJ0_coder_7d493 ∈ lw_good := tg (tb 258 (by decide +kernel)) rfl
theorem qc_J0_isLatin1_aae02 : Cond.code yJ0_isLatin1_aae02 cJ0_isLatin1_aae02 1 (some .boolean) ∈ lw_good := tg (tb 269 (by decide +kernel)) rfl
theorem qi_J0_isLatin1_aae02 : Cond.instanceMethod yJ0_isLatin1_aae02 ∈ lw_good := tg (tb 267 (by decide +kernel)) rfl
theorem ql_J0_isLatin1_aae02 : Cond.selects "java/lang/String" yJ0_isLatin1_aae02 yJ0_isLatin1_aae02 ∈ lw_good := tg (tb 268 (by decide +kernel)) rfl
theorem qc_J0_checkIndex_df160 : Cond.code yJ0_checkIndex_df160 cJ0_checkIndex_df160 2 none ∈ lw_good := tg (tb 275 (by decide +kernel)) rfl
theorem qs_J0_checkIndex_df160 : Cond.static yJ0_checkIndex_df160 ∈ lw_good := tg (tb 274 (by decide +kernel)) rfl
theorem qc_J1_charAt_3b067 : Cond.code yJ1_charAt_3b067 cJ1_charAt_3b067 2 (some .char) ∈ lw_good := tg (tb 272 (by decide +kernel)) rfl
theorem qs_J1_charAt_3b067 : Cond.static yJ1_charAt_3b067 ∈ lw_good := tg (tb 271 (by decide +kernel)) rfl
theorem qc_J2_getChar_3b067 : Cond.code yJ2_getChar_3b067 cJ2_getChar_3b067 2 (some .char) ∈ lw_good := tg (tb 293 (by decide +kernel)) rfl
theorem qs_J2_getChar_3b067 : Cond.static yJ2_getChar_3b067 ∈ lw_good := tg (tb 292 (by decide +kernel)) rfl
theorem qc_J2_length_9d52b : Cond.code yJ2_length_9d52b cJ2_length_9d52b 1 (some .int) ∈ lw_good := tg (tb 289 (by decide +kernel)) rfl
theorem qs_J2_length_9d52b : Cond.static yJ2_length_9d52b ∈ lw_good := tg (tb 288 (by decide +kernel)) rfl
theorem qc_J2_charAt_3b067 : Cond.code yJ2_charAt_3b067 cJ2_charAt_3b067 2 (some .char) ∈ lw_good := tg (tb 283 (by decide +kernel)) rfl
theorem qs_J2_charAt_3b067 : Cond.static yJ2_charAt_3b067 ∈ lw_good := tg (tb 282 (by decide +kernel)) rfl
theorem qc_J2_checkIndex_2214a : Cond.code yJ2_checkIndex_2214a cJ2_checkIndex_2214a 2 none ∈ lw_good := tg (tb 286 (by decide +kernel)) rfl
theorem qs_J2_checkIndex_2214a : Cond.static yJ2_checkIndex_2214a ∈ lw_good := tg (tb 285 (by decide +kernel)) rfl
theorem qc_J3_checkIndex_8e157 : Cond.code yJ3_checkIndex_8e157 cJ3_checkIndex_8e157 3 (some .int) ∈ lw_good := tg (tb 280 (by decide +kernel)) rfl
theorem qs_J3_checkIndex_8e157 : Cond.static yJ3_checkIndex_8e157 ∈ lw_good := tg (tb 279 (by decide +kernel)) rfl
theorem qn_CostsAgeLaw : Cond.initialized "CostsAgeLaw" ∈ lw_good := tg (tb 0 (by decide +kernel)) rfl
theorem qn_CostsAge : Cond.initialized "CostsAge" ∈ lw_good := tg (tb 1 (by decide +kernel)) rfl
theorem qn_CostsAge_Reader : Cond.initialized "CostsAge$Reader" ∈ lw_good := tg (tb 2 (by decide +kernel)) rfl
theorem qn_CostsAge_Scene : Cond.initialized "CostsAge$Scene" ∈ lw_good := tg (tb 3 (by decide +kernel)) rfl
theorem qn_CostsAge_Plan : Cond.initialized "CostsAge$Plan" ∈ lw_good := tg (tb 4 (by decide +kernel)) rfl
theorem qn_CostsAge_Fees : Cond.initialized "CostsAge$Fees" ∈ lw_good := tg (tb 5 (by decide +kernel)) rfl
theorem qn_CostsAge_Standing : Cond.initialized "CostsAge$Standing" ∈ lw_good := tg (tb 6 (by decide +kernel)) rfl
theorem qn_CostsAge_Buyer : Cond.initialized "CostsAge$Buyer" ∈ lw_good := tg (tb 7 (by decide +kernel)) rfl
theorem qn_CostsAge_Ware : Cond.initialized "CostsAge$Ware" ∈ lw_good := tg (tb 8 (by decide +kernel)) rfl
theorem qn_CostsAge_Text : Cond.initialized "CostsAge$Text" ∈ lw_good := tg (tb 9 (by decide +kernel)) rfl
theorem qn_CostsAge_Sheet : Cond.initialized "CostsAge$Sheet" ∈ lw_good := tg (tb 10 (by decide +kernel)) rfl
theorem qn_java_lang_String : Cond.initialized "java/lang/String" ∈ lw_good := tg (tb 11 (by decide +kernel)) rfl
theorem qn_java_lang_StringLatin1 : Cond.initialized "java/lang/StringLatin1" ∈ lw_good := tg (tb 12 (by decide +kernel)) rfl
theorem qn_jdk_internal_util_Preconditions : Cond.initialized "jdk/internal/util/Preconditions" ∈ lw_good := tg (tb 13 (by decide +kernel)) rfl
theorem qn_java_lang_StringUTF16 : Cond.initialized "java/lang/StringUTF16" ∈ lw_good := tg (tb 14 (by decide +kernel)) rfl
theorem qn_CostsAgeModel : Cond.initialized "CostsAgeModel" ∈ lw_good := tg (tb 15 (by decide +kernel)) rfl
theorem qn_java_lang_Math : Cond.initialized "java/lang/Math" ∈ lw_good := tg (tb 16 (by decide +kernel)) rfl
theorem qn_java_lang_Integer : Cond.initialized "java/lang/Integer" ∈ lw_good := tg (tb 17 (by decide +kernel)) rfl
theorem qn_java_lang_System : Cond.initialized "java/lang/System" ∈ lw_good := tg (tb 18 (by decide +kernel)) rfl
end
section
/-! THE WORLD: objects and arrays by group g and number i; their ints in M.1 g i k, the one long in M.2 -/
abbrev wS : Type := (Nat → Nat → Nat → Int32) × Int64
def wN : Nat → Nat := fun g => match g with
  | 5 => 7
  | 6 => 7
  | 7 => 6
  | 8 => 6
  | 9 => 4
  | 10 => 4
  | 26 => 2
  | 27 => 2
  | 28 => 2
  | 29 => 2
  | _ => 1
def wFm (cy : Nat → ClassId) (ad : Nat → Nat → Nat) (L : Int64) (g i : Nat) (f : Nat → Int32) : va_E := match g with
  | 30 => .inr (10, [.int (f 0), .ref (ad 31 0), .ref (ad 32 0), .int (f 3), .int (f 4), .ref (ad 33 0), .int (f 6), .ref (ad 34 0), .ref (ad 35 0), .ref (ad 36 0), .ref (ad 37 0), .ref (ad 38 0), .int (f 12), .ref (ad 39 0), .ref (ad 40 0), .ref (ad 41 0), .int (f 16), .int (f 17), .int (f 18), .int (f 19), .int (f 20), .int (f 21), .int (f 22), .int (f 23), .int (f 24), .int (f 25), .int (f 26), .int (f 27), .int (f 28), .int (f 29), .int (f 30), .int (f 31), .int (f 32), .long L, .int (f 34), .int (f 35), .int (f 36), .int (f 37), .int (f 38), .ref (ad 42 0), .ref (ad 43 0), .ref (ad 44 0), .ref (ad 45 0), .ref (ad 46 0), .ref (ad 47 0), .ref (ad 48 0), .ref (ad 49 0), .ref (ad 50 0), .ref (ad 51 0), .int (f 49), .int (f 50), .int (f 51), .int (f 52), .int (f 53), .int (f 54), .int (f 55), .int (f 56), .ref (ad 52 0), .ref (ad 53 0), .ref (ad 54 0), .ref (ad 55 0)])
  | 31 => .inl (cy 0, 960, .inl f)
  | 32 => .inl (cy 0, 6, .inl f)
  | 33 => .inl (cy 0, 160, .inl f)
  | 34 => .inl (cy 0, 7, .inl f)
  | 35 => .inl (cy 0, 7, .inl f)
  | 36 => .inl (cy 0, 7, .inl f)
  | 37 => .inl (cy 0, 7, .inl f)
  | 38 => .inl (cy 0, 7, .inl f)
  | 39 => .inl (cy 0, 7, .inl f)
  | 40 => .inl (cy 0, 7, .inl f)
  | 41 => .inl (cy 0, 7, .inl f)
  | 42 => .inl (cy 0, 128, .inl f)
  | 43 => .inl (cy 0, 128, .inl f)
  | 44 => .inl (cy 0, 128, .inl f)
  | 45 => .inl (cy 0, 128, .inl f)
  | 46 => .inl (cy 0, 128, .inl f)
  | 47 => .inl (cy 0, 128, .inl f)
  | 48 => .inl (cy 0, 7, .inl f)
  | 49 => .inl (cy 0, 7, .inl f)
  | 50 => .inl (cy 0, 7, .inl f)
  | 51 => .inl (cy 0, 7, .inl f)
  | 52 => .inl (cy 1, 4, .inl f)
  | 53 => .inl (cy 0, 4, .inl f)
  | 54 => .inl (cy 0, 4, .inl f)
  | _ => .inl (cy 0, 160, .inl f)
def wF (cy : Nat → ClassId) (ad : Nat → Nat → Nat) (L : Int64) (g i : Nat) (f : Nat → Int32) : va_E := match g with
  | 0 => .inr (9, [.ref (ad 1 0), .ref (ad 2 0), .ref (ad 3 0), .ref (ad 4 0), .ref (ad 11 0), .ref (ad 13 0), .ref (ad 16 0), .ref (ad 22 0), .ref (ad 26 0), .ref (ad 26 1), .int (f 10), .int (f 11), .int (f 12), .int (f 13)])
  | 1 => .inl (cy 2, 7, .inr (.inr (.inr (.inr (fun j => some (ad 5 j))))))
  | 2 => .inl (cy 3, 7, .inr (.inr (.inr (.inr (fun j => some (ad 6 j))))))
  | 3 => .inl (cy 4, 6, .inr (.inr (.inr (.inr (fun j => some (ad 7 j))))))
  | 4 => .inl (cy 5, 4, .inr (.inr (.inr (.inr (fun j => some (ad 9 j))))))
  | 5 => .inr (0, [.int (f 0), .int (f 1), .int (f 2)])
  | 6 => .inr (8, [.int (f 0), .int (f 1)])
  | 7 => .inr (7, [.ref (ad 8 i), .int (f 1), .int (f 2), .int (f 3)])
  | 8 => .inl (cy 0, 160, .inl f)
  | 9 => .inr (5, [.ref (ad 10 i), .int (f 1), .int (f 2)])
  | 10 => .inl (cy 0, 40, .inl f)
  | 11 => .inr (3, [.ref (ad 12 0), .int (f 1), .int (f 2), .int (f 3), .int (f 4), .int (f 5), .int (f 6), .int (f 7)])
  | 12 => .inl (cy 0, 160, .inl f)
  | 13 => .inr (4, [.ref (ad 14 0), .ref (ad 15 0), .int (f 2)])
  | 14 => .inl (cy 0, 6, .inl f)
  | 15 => .inl (cy 0, 160, .inl f)
  | 16 => .inr (2, [.ref (ad 17 0), .ref (ad 18 0), .ref (ad 19 0), .ref (ad 20 0), .ref (ad 21 0)])
  | 17 => .inl (cy 0, 128, .inl f)
  | 18 => .inl (cy 0, 128, .inl f)
  | 19 => .inl (cy 0, 128, .inl f)
  | 20 => .inl (cy 0, 128, .inl f)
  | 21 => .inl (cy 0, 128, .inl f)
  | 22 => .inr (1, [.ref (ad 23 0), .ref (ad 24 0), .ref (ad 25 0)])
  | 23 => .inl (cy 0, 49, .inl f)
  | 24 => .inl (cy 0, 7, .inl f)
  | 25 => .inl (cy 0, 7, .inl f)
  | 26 => .inr (6, [.ref (ad 27 i), .ref (ad 28 i), .ref (ad 29 i), .int (f 3), .int (f 4), .int (f 5), .int (f 6), .int (f 7), .int (f 8), .int (f 9), .int (f 10)])
  | 27 => .inl (cy 0, 7, .inl f)
  | 28 => .inl (cy 0, 7, .inl f)
  | 29 => .inl (cy 0, 7, .inl f)
  | _ => wFm cy ad L g i f
theorem wF_0 {cy : Nat → ClassId} {ad : Nat → Nat → Nat} {L : Int64} {i : Nat} {f : Nat → Int32} : wF cy ad L 0 i f = .inr (9, [.ref (ad 1 0), .ref (ad 2 0), .ref (ad 3 0), .ref (ad 4 0), .ref (ad 11 0), .ref (ad 13 0), .ref (ad 16 0), .ref (ad 22 0), .ref (ad 26 0), .ref (ad 26 1), .int (f 10), .int (f 11), .int (f 12), .int (f 13)]) := rfl
theorem wF_1 {cy : Nat → ClassId} {ad : Nat → Nat → Nat} {L : Int64} {i : Nat} {f : Nat → Int32} : wF cy ad L 1 i f = .inl (cy 2, 7, .inr (.inr (.inr (.inr (fun j => some (ad 5 j)))))) := rfl
theorem wF_2 {cy : Nat → ClassId} {ad : Nat → Nat → Nat} {L : Int64} {i : Nat} {f : Nat → Int32} : wF cy ad L 2 i f = .inl (cy 3, 7, .inr (.inr (.inr (.inr (fun j => some (ad 6 j)))))) := rfl
theorem wF_3 {cy : Nat → ClassId} {ad : Nat → Nat → Nat} {L : Int64} {i : Nat} {f : Nat → Int32} : wF cy ad L 3 i f = .inl (cy 4, 6, .inr (.inr (.inr (.inr (fun j => some (ad 7 j)))))) := rfl
theorem wF_4 {cy : Nat → ClassId} {ad : Nat → Nat → Nat} {L : Int64} {i : Nat} {f : Nat → Int32} : wF cy ad L 4 i f = .inl (cy 5, 4, .inr (.inr (.inr (.inr (fun j => some (ad 9 j)))))) := rfl
theorem wF_5 {cy : Nat → ClassId} {ad : Nat → Nat → Nat} {L : Int64} {i : Nat} {f : Nat → Int32} : wF cy ad L 5 i f = .inr (0, [.int (f 0), .int (f 1), .int (f 2)]) := rfl
theorem wF_6 {cy : Nat → ClassId} {ad : Nat → Nat → Nat} {L : Int64} {i : Nat} {f : Nat → Int32} : wF cy ad L 6 i f = .inr (8, [.int (f 0), .int (f 1)]) := rfl
theorem wF_7 {cy : Nat → ClassId} {ad : Nat → Nat → Nat} {L : Int64} {i : Nat} {f : Nat → Int32} : wF cy ad L 7 i f = .inr (7, [.ref (ad 8 i), .int (f 1), .int (f 2), .int (f 3)]) := rfl
theorem wF_8 {cy : Nat → ClassId} {ad : Nat → Nat → Nat} {L : Int64} {i : Nat} {f : Nat → Int32} : wF cy ad L 8 i f = .inl (cy 0, 160, .inl f) := rfl
theorem wF_9 {cy : Nat → ClassId} {ad : Nat → Nat → Nat} {L : Int64} {i : Nat} {f : Nat → Int32} : wF cy ad L 9 i f = .inr (5, [.ref (ad 10 i), .int (f 1), .int (f 2)]) := rfl
theorem wF_10 {cy : Nat → ClassId} {ad : Nat → Nat → Nat} {L : Int64} {i : Nat} {f : Nat → Int32} : wF cy ad L 10 i f = .inl (cy 0, 40, .inl f) := rfl
theorem wF_11 {cy : Nat → ClassId} {ad : Nat → Nat → Nat} {L : Int64} {i : Nat} {f : Nat → Int32} : wF cy ad L 11 i f = .inr (3, [.ref (ad 12 0), .int (f 1), .int (f 2), .int (f 3), .int (f 4), .int (f 5), .int (f 6), .int (f 7)]) := rfl
theorem wF_12 {cy : Nat → ClassId} {ad : Nat → Nat → Nat} {L : Int64} {i : Nat} {f : Nat → Int32} : wF cy ad L 12 i f = .inl (cy 0, 160, .inl f) := rfl
theorem wF_13 {cy : Nat → ClassId} {ad : Nat → Nat → Nat} {L : Int64} {i : Nat} {f : Nat → Int32} : wF cy ad L 13 i f = .inr (4, [.ref (ad 14 0), .ref (ad 15 0), .int (f 2)]) := rfl
theorem wF_14 {cy : Nat → ClassId} {ad : Nat → Nat → Nat} {L : Int64} {i : Nat} {f : Nat → Int32} : wF cy ad L 14 i f = .inl (cy 0, 6, .inl f) := rfl
theorem wF_15 {cy : Nat → ClassId} {ad : Nat → Nat → Nat} {L : Int64} {i : Nat} {f : Nat → Int32} : wF cy ad L 15 i f = .inl (cy 0, 160, .inl f) := rfl
theorem wF_16 {cy : Nat → ClassId} {ad : Nat → Nat → Nat} {L : Int64} {i : Nat} {f : Nat → Int32} : wF cy ad L 16 i f = .inr (2, [.ref (ad 17 0), .ref (ad 18 0), .ref (ad 19 0), .ref (ad 20 0), .ref (ad 21 0)]) := rfl
theorem wF_17 {cy : Nat → ClassId} {ad : Nat → Nat → Nat} {L : Int64} {i : Nat} {f : Nat → Int32} : wF cy ad L 17 i f = .inl (cy 0, 128, .inl f) := rfl
theorem wF_18 {cy : Nat → ClassId} {ad : Nat → Nat → Nat} {L : Int64} {i : Nat} {f : Nat → Int32} : wF cy ad L 18 i f = .inl (cy 0, 128, .inl f) := rfl
theorem wF_19 {cy : Nat → ClassId} {ad : Nat → Nat → Nat} {L : Int64} {i : Nat} {f : Nat → Int32} : wF cy ad L 19 i f = .inl (cy 0, 128, .inl f) := rfl
theorem wF_20 {cy : Nat → ClassId} {ad : Nat → Nat → Nat} {L : Int64} {i : Nat} {f : Nat → Int32} : wF cy ad L 20 i f = .inl (cy 0, 128, .inl f) := rfl
theorem wF_21 {cy : Nat → ClassId} {ad : Nat → Nat → Nat} {L : Int64} {i : Nat} {f : Nat → Int32} : wF cy ad L 21 i f = .inl (cy 0, 128, .inl f) := rfl
theorem wF_22 {cy : Nat → ClassId} {ad : Nat → Nat → Nat} {L : Int64} {i : Nat} {f : Nat → Int32} : wF cy ad L 22 i f = .inr (1, [.ref (ad 23 0), .ref (ad 24 0), .ref (ad 25 0)]) := rfl
theorem wF_23 {cy : Nat → ClassId} {ad : Nat → Nat → Nat} {L : Int64} {i : Nat} {f : Nat → Int32} : wF cy ad L 23 i f = .inl (cy 0, 49, .inl f) := rfl
theorem wF_24 {cy : Nat → ClassId} {ad : Nat → Nat → Nat} {L : Int64} {i : Nat} {f : Nat → Int32} : wF cy ad L 24 i f = .inl (cy 0, 7, .inl f) := rfl
theorem wF_25 {cy : Nat → ClassId} {ad : Nat → Nat → Nat} {L : Int64} {i : Nat} {f : Nat → Int32} : wF cy ad L 25 i f = .inl (cy 0, 7, .inl f) := rfl
theorem wF_26 {cy : Nat → ClassId} {ad : Nat → Nat → Nat} {L : Int64} {i : Nat} {f : Nat → Int32} : wF cy ad L 26 i f = .inr (6, [.ref (ad 27 i), .ref (ad 28 i), .ref (ad 29 i), .int (f 3), .int (f 4), .int (f 5), .int (f 6), .int (f 7), .int (f 8), .int (f 9), .int (f 10)]) := rfl
theorem wF_27 {cy : Nat → ClassId} {ad : Nat → Nat → Nat} {L : Int64} {i : Nat} {f : Nat → Int32} : wF cy ad L 27 i f = .inl (cy 0, 7, .inl f) := rfl
theorem wF_28 {cy : Nat → ClassId} {ad : Nat → Nat → Nat} {L : Int64} {i : Nat} {f : Nat → Int32} : wF cy ad L 28 i f = .inl (cy 0, 7, .inl f) := rfl
theorem wF_29 {cy : Nat → ClassId} {ad : Nat → Nat → Nat} {L : Int64} {i : Nat} {f : Nat → Int32} : wF cy ad L 29 i f = .inl (cy 0, 7, .inl f) := rfl
theorem wF_30 {cy : Nat → ClassId} {ad : Nat → Nat → Nat} {L : Int64} {i : Nat} {f : Nat → Int32} : wF cy ad L 30 i f = .inr (10, [.int (f 0), .ref (ad 31 0), .ref (ad 32 0), .int (f 3), .int (f 4), .ref (ad 33 0), .int (f 6), .ref (ad 34 0), .ref (ad 35 0), .ref (ad 36 0), .ref (ad 37 0), .ref (ad 38 0), .int (f 12), .ref (ad 39 0), .ref (ad 40 0), .ref (ad 41 0), .int (f 16), .int (f 17), .int (f 18), .int (f 19), .int (f 20), .int (f 21), .int (f 22), .int (f 23), .int (f 24), .int (f 25), .int (f 26), .int (f 27), .int (f 28), .int (f 29), .int (f 30), .int (f 31), .int (f 32), .long L, .int (f 34), .int (f 35), .int (f 36), .int (f 37), .int (f 38), .ref (ad 42 0), .ref (ad 43 0), .ref (ad 44 0), .ref (ad 45 0), .ref (ad 46 0), .ref (ad 47 0), .ref (ad 48 0), .ref (ad 49 0), .ref (ad 50 0), .ref (ad 51 0), .int (f 49), .int (f 50), .int (f 51), .int (f 52), .int (f 53), .int (f 54), .int (f 55), .int (f 56), .ref (ad 52 0), .ref (ad 53 0), .ref (ad 54 0), .ref (ad 55 0)]) := rfl
theorem wF_31 {cy : Nat → ClassId} {ad : Nat → Nat → Nat} {L : Int64} {i : Nat} {f : Nat → Int32} : wF cy ad L 31 i f = .inl (cy 0, 960, .inl f) := rfl
theorem wF_32 {cy : Nat → ClassId} {ad : Nat → Nat → Nat} {L : Int64} {i : Nat} {f : Nat → Int32} : wF cy ad L 32 i f = .inl (cy 0, 6, .inl f) := rfl
theorem wF_33 {cy : Nat → ClassId} {ad : Nat → Nat → Nat} {L : Int64} {i : Nat} {f : Nat → Int32} : wF cy ad L 33 i f = .inl (cy 0, 160, .inl f) := rfl
theorem wF_34 {cy : Nat → ClassId} {ad : Nat → Nat → Nat} {L : Int64} {i : Nat} {f : Nat → Int32} : wF cy ad L 34 i f = .inl (cy 0, 7, .inl f) := rfl
theorem wF_35 {cy : Nat → ClassId} {ad : Nat → Nat → Nat} {L : Int64} {i : Nat} {f : Nat → Int32} : wF cy ad L 35 i f = .inl (cy 0, 7, .inl f) := rfl
theorem wF_36 {cy : Nat → ClassId} {ad : Nat → Nat → Nat} {L : Int64} {i : Nat} {f : Nat → Int32} : wF cy ad L 36 i f = .inl (cy 0, 7, .inl f) := rfl
theorem wF_37 {cy : Nat → ClassId} {ad : Nat → Nat → Nat} {L : Int64} {i : Nat} {f : Nat → Int32} : wF cy ad L 37 i f = .inl (cy 0, 7, .inl f) := rfl
theorem wF_38 {cy : Nat → ClassId} {ad : Nat → Nat → Nat} {L : Int64} {i : Nat} {f : Nat → Int32} : wF cy ad L 38 i f = .inl (cy 0, 7, .inl f) := rfl
theorem wF_39 {cy : Nat → ClassId} {ad : Nat → Nat → Nat} {L : Int64} {i : Nat} {f : Nat → Int32} : wF cy ad L 39 i f = .inl (cy 0, 7, .inl f) := rfl
theorem wF_40 {cy : Nat → ClassId} {ad : Nat → Nat → Nat} {L : Int64} {i : Nat} {f : Nat → Int32} : wF cy ad L 40 i f = .inl (cy 0, 7, .inl f) := rfl
theorem wF_41 {cy : Nat → ClassId} {ad : Nat → Nat → Nat} {L : Int64} {i : Nat} {f : Nat → Int32} : wF cy ad L 41 i f = .inl (cy 0, 7, .inl f) := rfl
theorem wF_42 {cy : Nat → ClassId} {ad : Nat → Nat → Nat} {L : Int64} {i : Nat} {f : Nat → Int32} : wF cy ad L 42 i f = .inl (cy 0, 128, .inl f) := rfl
theorem wF_43 {cy : Nat → ClassId} {ad : Nat → Nat → Nat} {L : Int64} {i : Nat} {f : Nat → Int32} : wF cy ad L 43 i f = .inl (cy 0, 128, .inl f) := rfl
theorem wF_44 {cy : Nat → ClassId} {ad : Nat → Nat → Nat} {L : Int64} {i : Nat} {f : Nat → Int32} : wF cy ad L 44 i f = .inl (cy 0, 128, .inl f) := rfl
theorem wF_45 {cy : Nat → ClassId} {ad : Nat → Nat → Nat} {L : Int64} {i : Nat} {f : Nat → Int32} : wF cy ad L 45 i f = .inl (cy 0, 128, .inl f) := rfl
theorem wF_46 {cy : Nat → ClassId} {ad : Nat → Nat → Nat} {L : Int64} {i : Nat} {f : Nat → Int32} : wF cy ad L 46 i f = .inl (cy 0, 128, .inl f) := rfl
theorem wF_47 {cy : Nat → ClassId} {ad : Nat → Nat → Nat} {L : Int64} {i : Nat} {f : Nat → Int32} : wF cy ad L 47 i f = .inl (cy 0, 128, .inl f) := rfl
theorem wF_48 {cy : Nat → ClassId} {ad : Nat → Nat → Nat} {L : Int64} {i : Nat} {f : Nat → Int32} : wF cy ad L 48 i f = .inl (cy 0, 7, .inl f) := rfl
theorem wF_49 {cy : Nat → ClassId} {ad : Nat → Nat → Nat} {L : Int64} {i : Nat} {f : Nat → Int32} : wF cy ad L 49 i f = .inl (cy 0, 7, .inl f) := rfl
theorem wF_50 {cy : Nat → ClassId} {ad : Nat → Nat → Nat} {L : Int64} {i : Nat} {f : Nat → Int32} : wF cy ad L 50 i f = .inl (cy 0, 7, .inl f) := rfl
theorem wF_51 {cy : Nat → ClassId} {ad : Nat → Nat → Nat} {L : Int64} {i : Nat} {f : Nat → Int32} : wF cy ad L 51 i f = .inl (cy 0, 7, .inl f) := rfl
theorem wF_52 {cy : Nat → ClassId} {ad : Nat → Nat → Nat} {L : Int64} {i : Nat} {f : Nat → Int32} : wF cy ad L 52 i f = .inl (cy 1, 4, .inl f) := rfl
theorem wF_53 {cy : Nat → ClassId} {ad : Nat → Nat → Nat} {L : Int64} {i : Nat} {f : Nat → Int32} : wF cy ad L 53 i f = .inl (cy 0, 4, .inl f) := rfl
theorem wF_54 {cy : Nat → ClassId} {ad : Nat → Nat → Nat} {L : Int64} {i : Nat} {f : Nat → Int32} : wF cy ad L 54 i f = .inl (cy 0, 4, .inl f) := rfl
theorem wF_55 {cy : Nat → ClassId} {ad : Nat → Nat → Nat} {L : Int64} {i : Nat} {f : Nat → Int32} : wF cy ad L 55 i f = .inl (cy 0, 160, .inl f) := rfl
def wIdx (G : Nat) : List (Nat × Nat) := (List.range G).flatMap (fun g => (List.range (wN g)).map (fun i => (g, i)))
def wG (G g i : Nat) : Prop := g < G ∧ i < wN g
theorem wIdx_mem {G g i : Nat} : (g, i) ∈ wIdx G ↔ wG G g i := by
  simp only [wIdx, wG, List.mem_flatMap, List.mem_range, List.mem_map, Prod.mk.injEq]
  constructor
  · rintro ⟨a, h1, b, h2, rfl, rfl⟩
    exact ⟨h1, h2⟩
  · rintro ⟨h1, h2⟩
    exact ⟨g, h1, i, h2, rfl, rfl⟩
def wL (cy : Nat → ClassId) (ad : Nat → Nat → Nat) (G : Nat) (M : wS) : va_W := (wIdx G).map (fun q => (ad q.1 q.2, wF cy ad M.2 q.1 q.2 (M.1 q.1 q.2)))
theorem wL_get {cy : Nat → ClassId} {ad : Nat → Nat → Nat} {G : Nat} {M : wS} {k : Nat} {g i : Nat} (h : (wIdx G)[k]? = some (g, i)) : (wL cy ad G M)[k]? = some (ad g i, wF cy ad M.2 g i (M.1 g i)) := by
  rw [wL, List.getElem?_map, h]
  rfl
theorem wL_at {G g i : Nat} (h : wG G g i) : ∃ k : Nat, (wIdx G)[k]? = some (g, i) := List.getElem?_of_mem (wIdx_mem.mpr h)
theorem wL_set {cy : Nat → ClassId} {ad : Nat → Nat → Nat} {G : Nat} {M M' : wS} {A : Nat → Prop} {k g i : Nat} (hD : va_D A (wL cy ad G M)) (hk : (wIdx G)[k]? = some (g, i)) (hs : ∀ g' i', wG G g' i' → ¬ (g' = g ∧ i' = i) → wF cy ad M'.2 g' i' (M'.1 g' i') = wF cy ad M.2 g' i' (M.1 g' i')) :
    (wL cy ad G M).set k (ad g i, wF cy ad M'.2 g i (M'.1 g i)) = wL cy ad G M' := by
  apply List.ext_getElem?
  intro j
  by_cases hj : j = k
  · subst hj
    have hl : j < (wL cy ad G M).length := (List.getElem?_eq_some_iff.mp (wL_get (cy := cy) (ad := ad) (M := M) hk)).1
    rw [List.getElem?_set_self hl, wL_get hk]
  · rw [List.getElem?_set_ne (Ne.symm hj)]
    cases hq : (wIdx G)[j]? with
    | none => simp only [wL, List.getElem?_map, hq, Option.map_none]
    | some q =>
      obtain ⟨g', i'⟩ := q
      rw [wL_get hq, wL_get hq, hs g' i' (wIdx_mem.mp (List.mem_of_getElem? hq)) (fun e => hj ?_)]
      obtain ⟨rfl, rfl⟩ := e
      exact hD.1 j k _ _ (wL_get hq) (wL_get hk) rfl
/-- one int of the memory set -/
def mset (M : wS) (g i k : Nat) (x : Int32) : wS := (fun g' i' => if g' = g ∧ i' = i then upd (M.1 g i) k x else M.1 g' i', M.2)
/-- a whole row of the memory set -/
def mrow (M : wS) (g i : Nat) (f : Nat → Int32) : wS := (fun g' i' => if g' = g ∧ i' = i then f else M.1 g' i', M.2)
theorem mset_row (M : wS) (g i k : Nat) (x : Int32) : mset M g i k x = mrow M g i (upd (M.1 g i) k x) := rfl
theorem mrow_self (M : wS) (g i : Nat) (f : Nat → Int32) : (mrow M g i f).1 g i = f := by simp [mrow]
theorem mrow_ne (M : wS) (g i : Nat) (f : Nat → Int32) {g' i' : Nat} (h : ¬ (g' = g ∧ i' = i)) : (mrow M g i f).1 g' i' = M.1 g' i' := by simp only [mrow, if_neg h]
theorem mset_at (M : wS) (g i k : Nat) (x : Int32) (g' i' j : Nat) : (mset M g i k x).1 g' i' j = if g' = g ∧ i' = i ∧ j = k then x else M.1 g' i' j := by
  by_cases h : g' = g ∧ i' = i
  · obtain ⟨rfl, rfl⟩ := h
    simp [mset, upd]
  · have h2 : ¬ (g' = g ∧ i' = i ∧ j = k) := fun e => h ⟨e.1, e.2.1⟩
    simp only [mset, if_neg h, if_neg h2]
theorem mset_2 (M : wS) (g i k : Nat) (x : Int32) : (mset M g i k x).2 = M.2 := rfl
theorem mrow_2 (M : wS) (g i : Nat) (f : Nat → Int32) : (mrow M g i f).2 = M.2 := rfl
theorem mrow_at (M : wS) (g i : Nat) (f : Nat → Int32) (g' i' j : Nat) : (mrow M g i f).1 g' i' j = if g' = g ∧ i' = i then f j else M.1 g' i' j := by
  by_cases h : g' = g ∧ i' = i <;> simp [mrow, h]
def wTys (cy : Nat → ClassId) : List (ClassId × FieldType) := [(cy 0, .int), (cy 1, .boolean), (cy 2, .object "CostsAge$Buyer"), (cy 3, .object "CostsAge$Ware"), (cy 4, .object "CostsAge$Text"), (cy 5, .object "CostsAge$Sheet")]
def wUnder : Nat → Int32 := fun j => [-1, 0, 0, 1, 1, 2].getD j 0
def wTx : List (String × Nat × String) := [("CostsAge", 79, "serves size < 8 or 9 < age ; adds 0 ; gains value ;"), ("CostsAge$Reader", 106, "age"), ("CostsAge$Reader", 112, "size"), ("CostsAge$Reader", 113, "value"), ("CostsAge$Reader", 115, "week"), ("CostsAge$Reader", 117, "fee"), ("CostsAge$Reader", 119, "own"), ("CostsAge$Reader", 121, "serves"), ("CostsAge$Reader", 123, "adds"), ("CostsAge$Reader", 125, "gains"), ("CostsAge$Reader", 127, "or"), ("CostsAge$Reader", 129, "and"), ("CostsAge$Reader", 131, "not")]
def wTlen : List Nat := [51, 3, 4, 5, 4, 3, 3, 6, 4, 5, 2, 3, 3]
def wTby : List (List Int32) := [[115, 101, 114, 118, 101, 115, 32, 115, 105, 122, 101, 32, 60, 32, 56, 32, 111, 114, 32, 57, 32, 60, 32, 97, 103, 101, 32, 59, 32, 97, 100, 100, 115, 32, 48, 32, 59, 32, 103, 97, 105, 110, 115, 32, 118, 97, 108, 117, 101, 32, 59], [97, 103, 101], [115, 105, 122, 101], [118, 97, 108, 117, 101], [119, 101, 101, 107], [102, 101, 101], [111, 119, 110], [115, 101, 114, 118, 101, 115], [97, 100, 100, 115], [103, 97, 105, 110, 115], [111, 114], [97, 110, 100], [110, 111, 116]]
/-- what never changes: the tables' classes, the nest's links, the static row, the texts -/
def wNest (U : State) : Prop := (∀ (a : String) (i : Nat) (b n d h : String), Cond.fieldLinkNest a i b n d h ∈ lw_tbl → va_Nw (.fieldLinkNest a i b n d h) U) ∧ ∀ (a : String) (i : Nat) (x : MethodName) (h : String), Cond.methodLinkNest a i x h ∈ lw_tbl → va_Nw (.methodLinkNest a i x h) U
def wStr (ad : Nat → Nat → Nat) (A : Nat → Prop) (U : State) (H : Heap) : Prop := vk_S 13 wTlen wTby (ad 61) (ad 62) A U H ∧ (∀ (i : Nat) (q : String × Nat × String), wTx[i]? = some q → vk_R q.1 q.2.1 q.2.2 (ad 61 i) U) ∧ va_Z "java/lang/String" "COMPACT_STRINGS" "Z" (.int 1) A U H ∧ va_Zq "jdk/internal/util/Preconditions" "SIOOBE_FORMATTER" "Ljava/util/function/BiFunction;" A U H
def wEn (D : va_G) (cy : Nat → ClassId) (ad : Nat → Nat → Nat) (A : Nat → Prop) (U : State) (H : Heap) : Prop := va_K D classes (wTys cy) U ∧ wNest U ∧ (va_Z "CostsAge" "UNDER" "[I" (.ref (ad 60 0)) A U H ∧ va_T .int (ad 60 0) 6 (fun j => .int (wUnder j)) A U H) ∧ wStr ad A U H
theorem wEn.moved {D : va_G} {cy : Nat → ClassId} {ad : Nat → Nat → Nat} {A B : Nat → Prop} {s U : State} {H H1 : Heap} (hW : s.WarmedH U.vm) (hAB : ∀ q, B q → A q) (hq : ∀ a : Nat, a < H.size → ¬ A a → H1[a]? = H[a]?) (h : wEn D cy ad A s H) : wEn D cy ad B U H1 := by
  obtain ⟨hK, hN, ⟨hZ, hT⟩, hs, hr, hc, hz⟩ := h
  refine ⟨va_K.moved hW.alike hK, ⟨fun a i b n d h w => va_Nw.warmF hW (hN.1 a i b n d h w), fun a i x h w => va_Nw.warmM hW (hN.2 a i x h w)⟩, ⟨((va_Z.moved hW.alike hZ).kept hq).narrow hAB, ((va_T.moved hW.alike hT).kept hq).narrow hAB⟩, ((vk_S.moved hW.alike hs).kept hq).narrow hAB, fun i q w => vk_R.warm hW (hr i q w), ((va_Z.moved hW.alike hc).kept hq).narrow hAB, ((va_Zq.moved hW.alike hz).kept hq).narrow hAB⟩
def wA (ad : Nat → Nat → Nat) (G : Nat) : Nat → Prop := fun q => ∃ g i, wG G g i ∧ q = ad g i
def wInj (ad : Nat → Nat → Nat) (G : Nat) : Prop := ∀ g i g' i', wG G g i → wG G g' i' → ad g i = ad g' i' → g = g' ∧ i = i'
theorem wIdx_nd (G : Nat) : (wIdx G).Nodup := by
  unfold wIdx
  rw [List.nodup_iff_pairwise_ne, List.pairwise_flatMap]
  refine ⟨fun g _ => ?_, ?_⟩
  · rw [List.pairwise_map]
    exact List.Pairwise.imp (fun h e => h (Prod.mk.inj e).2) (List.nodup_iff_pairwise_ne.mp List.nodup_range)
  · refine List.Pairwise.imp (fun {a b} h x hx y hy e => ?_) (List.nodup_iff_pairwise_ne.mp List.nodup_range)
    obtain ⟨i, -, rfl⟩ := List.mem_map.mp hx
    obtain ⟨j, -, rfl⟩ := List.mem_map.mp hy
    exact h (Prod.mk.inj e).1
theorem wD_of {cy : Nat → ClassId} {ad : Nat → Nat → Nat} {G : Nat} {A : Nat → Prop} (hI : wInj ad G) (hA : ∀ q, wA ad G q → A q) (M : wS) : va_D A (wL cy ad G M) := by
  have key : ∀ (k : Nat) (q : Nat × va_E), (wL cy ad G M)[k]? = some q → ∃ g i, (wIdx G)[k]? = some (g, i) ∧ q.1 = ad g i ∧ wG G g i := by
    intro k q h
    rw [wL, List.getElem?_map] at h
    cases hq : (wIdx G)[k]? with
    | none => rw [hq] at h; cases h
    | some z =>
      rw [hq] at h
      cases h
      exact ⟨z.1, z.2, rfl, rfl, wIdx_mem.mp (List.mem_of_getElem? hq)⟩
  refine ⟨fun i j x y hx hy e => ?_, fun k q h => ?_⟩
  · obtain ⟨g, a, h1, h2, h3⟩ := key i x hx
    obtain ⟨g', a', h4, h5, h6⟩ := key j y hy
    obtain ⟨rfl, rfl⟩ := hI g a g' a' h3 h6 (by rw [← h2, ← h5]; exact e)
    exact (List.getElem?_inj (List.getElem?_eq_some_iff.mp h1).1 (wIdx_nd G)).mp (h1.trans h4.symm)
  · obtain ⟨g, a, h1, h2, h3⟩ := key k q h
    exact hA _ ⟨g, a, h3, h2⟩
def Rm (d : Nat) : Room := { frames := d, cells := 0, slots := 0, locals := 40 * d }
/-- what a walk stands on -/
def CX (p : Program) (s : State) (m : MethodId) (args : Array Value) (c : Code) (cc : ByteArray) (nL : Nat) (own : String) (D : va_G) (cy : Nat → ClassId) (ad : Nat → Nat → Nat) (G : Nat) (A : Nat → Prop) (R : Room) (d cells slots : Nat) : Prop :=
  p.tables.exec = Jvm.exec ∧ c.code = cc ∧ c.maxLocals = nL ∧ s.vm.findClass own = some m.cls ∧ (∀ w ∈ lw_good, w.before args s = true) ∧ wEn D cy ad A s s.heap ∧ wInj ad G ∧ (∀ q, wA ad G q → A q) ∧ (d ≤ R.frames ∧ 40 * d ≤ R.locals ∧ cells ≤ R.cells ∧ slots ≤ R.slots)
/-- THE JUDGEMENT: at pc, with these locals and this stack, over every heap that holds the memory M, the machine comes to Q -/
def V (p : Program) (l : Launch) (e : Env) (R : Room) (s : State) (m : MethodId) (args : Array Value) (below : List Frame) (meth : Method) (c : Code) (nL : Nat) (D : va_G) (cy : Nat → ClassId) (ad : Nat → Nat → Nat) (G : Nat) (A : Nat → Prop) (cells slots : Nat) (Q : State → Prop) (pc : Nat) (lv : List (Nat × Value)) (st : List Value) (M : wS) : Prop :=
  ∀ (H : Heap) (locs : List Loc) (ls : Array Slot), va_P D classes (wL cy ad G M) H → va_S A s.heap H locs → lv_has ls nL lv → W p l e R s m args below meth c H locs cells slots Q (F0 m pc ls st)
/-- the locals with one set -/
def lset (lv : List (Nat × Value)) (i : Nat) (v : Value) : List (Nat × Value) := if lv.any (fun q => q.1 == i) then lv.map (fun q => if q.1 = i then (i, v) else q) else lv ++ [(i, v)]
theorem lset_has {ls : Array Slot} {nL i : Nat} {v : Value} {lv : List (Nat × Value)} (hw : ∀ q ∈ lv, q.1 + 1 = i → q.2.category = 1) (h : lv_has ls nL ((i, v) :: lv.filter (fun q => !(q.1 == i) && !(q.1 + 1 == i && q.2.category == 2)))) : lv_has ls nL (lset lv i v) := by
  refine ⟨h.1, h.2.1, fun q hq => ?_⟩
  have key : q = (i, v) ∨ (q ∈ lv ∧ q.1 ≠ i) := by
    unfold lset at hq
    split at hq
    · obtain ⟨q0, h0, rfl⟩ := List.mem_map.mp hq
      by_cases e : q0.1 = i
      · simp [e]
      · rw [if_neg e]
        exact Or.inr ⟨h0, e⟩
    · next hn =>
      rcases List.mem_append.mp hq with h1 | h1
      · refine Or.inr ⟨h1, fun e => hn ?_⟩
        rw [List.any_eq_true]
        exact ⟨q, h1, by simp [e]⟩
      · exact Or.inl (List.mem_singleton.mp h1)
  rcases key with rfl | ⟨h1, h2⟩
  · exact h.2.2 _ List.mem_cons_self
  · refine h.2.2 q (List.mem_cons_of_mem _ (List.mem_filter.mpr ⟨h1, ?_⟩))
    by_cases e : q.1 + 1 = i
    · simp [h2, hw q h1 e]
    · simp [h2, e]
theorem lset_hasL {ls : Array Slot} {nL i : Nat} {v : Value} {lv : List (Nat × Value)} (hw : ∀ q ∈ lv, q.1 ≠ i + 1 ∧ (q.1 + 1 = i → q.2.category = 1)) (h : lv_has ls nL ((i, v) :: lv.filter (fun q => !(q.1 == i) && (!(q.1 == i + 1) && !(q.1 + 1 == i && q.2.category == 2))))) : lv_has ls nL (lset lv i v) := by
  refine ⟨h.1, h.2.1, fun q hq => ?_⟩
  have key : q = (i, v) ∨ (q ∈ lv ∧ q.1 ≠ i) := by
    unfold lset at hq
    split at hq
    · obtain ⟨q0, h0, rfl⟩ := List.mem_map.mp hq
      by_cases e : q0.1 = i
      · simp [e]
      · rw [if_neg e]
        exact Or.inr ⟨h0, e⟩
    · next hn =>
      rcases List.mem_append.mp hq with h1 | h1
      · refine Or.inr ⟨h1, fun e => hn ?_⟩
        rw [List.any_eq_true]
        exact ⟨q, h1, by simp [e]⟩
      · exact Or.inl (List.mem_singleton.mp h1)
  rcases key with rfl | ⟨h1, h2⟩
  · exact h.2.2 _ List.mem_cons_self
  · refine h.2.2 q (List.mem_cons_of_mem _ (List.mem_filter.mpr ⟨h1, ?_⟩))
    by_cases e : q.1 + 1 = i
    · simp [h2, (hw q h1).1, (hw q h1).2 e]
    · simp [h2, (hw q h1).1, e]
section VR
variable {p : Program} {l : Launch} {e : Env} {R : Room} {s : State} {m : MethodId} {args : Array Value} {below : List Frame} {meth : Method} {c : Code} {nL : Nat} {D : va_G} {cy : Nat → ClassId} {ad : Nat → Nat → Nat} {G : Nat} {A : Nat → Prop} {cells slots d : Nat} {Q : State → Prop} {cc : ByteArray} {own : String} {pc : Nat} {lv : List (Nat × Value)} {st : List Value} {M : wS}
/-- fewer locals, or in another order, by their places -/
theorem V_loc {lv' : List (Nat × Value)} (ks : List Nat) (hl : lv_pick lv ks = lv') (k : V p l e R s m args below meth c nL D cy ad G A cells slots Q pc lv' st M) : V p l e R s m args below meth c nL D cy ad G A cells slots Q pc lv st M :=
  fun H locs ls h1 h2 h3 => k H locs ls h1 h2 (lv_sub h3 ks hl)
theorem V_iconst (C : CX p s m args c cc nL own D cy ad G A R d cells slots) {n : Int} {v : Int32} (hd : decode cc pc = .ok (.iconst n, 1)) (hv : Int32.ofInt n = v) (k : V p l e R s m args below meth c nL D cy ad G A cells slots Q (pc + 1) lv (.int v :: st) M) : V p l e R s m args below meth c nL D cy ad G A cells slots Q pc lv (st) M :=
  fun H locs ls h1 h2 h3 => lv_iconst C.1 C.2.1 hd hv (k H locs ls h1 h2 h3)
theorem V_bipush (C : CX p s m args c cc nL own D cy ad G A R d cells slots) {n : Int} {v : Int32} (hd : decode cc pc = .ok (.bipush n, 2)) (hv : (Int8.ofInt n).toInt32 = v) (k : V p l e R s m args below meth c nL D cy ad G A cells slots Q (pc + 2) lv (.int v :: st) M) : V p l e R s m args below meth c nL D cy ad G A cells slots Q pc lv (st) M :=
  fun H locs ls h1 h2 h3 => lv_bipush C.1 C.2.1 hd hv (k H locs ls h1 h2 h3)
theorem V_sipush (C : CX p s m args c cc nL own D cy ad G A R d cells slots) {n : Int} {v : Int32} (hd : decode cc pc = .ok (.sipush n, 3)) (hv : (Int16.ofInt n).toInt32 = v) (k : V p l e R s m args below meth c nL D cy ad G A cells slots Q (pc + 3) lv (.int v :: st) M) : V p l e R s m args below meth c nL D cy ad G A cells slots Q pc lv (st) M :=
  fun H locs ls h1 h2 h3 => lv_sipush C.1 C.2.1 hd hv (k H locs ls h1 h2 h3)
theorem V_lconst (C : CX p s m args c cc nL own D cy ad G A R d cells slots) {n : Fin 2} {v : Int64} (hd : decode cc pc = .ok (.lconst n, 1)) (hv : Int64.ofNat (n : Nat) = v) (k : V p l e R s m args below meth c nL D cy ad G A cells slots Q (pc + 1) lv (.long v :: st) M) : V p l e R s m args below meth c nL D cy ad G A cells slots Q pc lv (st) M :=
  fun H locs ls h1 h2 h3 => lv_lconst C.1 C.2.1 hd hv (k H locs ls h1 h2 h3)
theorem V_iload_n (C : CX p s m args c cc nL own D cy ad G A R d cells slots) {n : Fin 4} {i : Nat} {x : Int32} (q : Nat) (hd : decode cc pc = .ok (.iload_n n, 1)) (hi : (n : Nat) = i) (hq : lv[q]? = some (i, .int x)) (k : V p l e R s m args below meth c nL D cy ad G A cells slots Q (pc + 1) lv (.int x :: st) M) : V p l e R s m args below meth c nL D cy ad G A cells slots Q pc lv (st) M :=
  fun H locs ls h1 h2 h3 => lv_iload_n C.1 C.2.1 hd hi (lv_at h3 q hq) (k H locs ls h1 h2 h3)
theorem V_iload (C : CX p s m args c cc nL own D cy ad G A R d cells slots) {i : Nat} {x : Int32} (q : Nat) (hd : decode cc pc = .ok (.iload i, 2)) (hq : lv[q]? = some (i, .int x)) (k : V p l e R s m args below meth c nL D cy ad G A cells slots Q (pc + 2) lv (.int x :: st) M) : V p l e R s m args below meth c nL D cy ad G A cells slots Q pc lv (st) M :=
  fun H locs ls h1 h2 h3 => lv_iload C.1 C.2.1 hd (lv_at h3 q hq) (k H locs ls h1 h2 h3)
theorem V_lload_n (C : CX p s m args c cc nL own D cy ad G A R d cells slots) {n : Fin 4} {i : Nat} {x : Int64} (q : Nat) (hd : decode cc pc = .ok (.lload_n n, 1)) (hi : (n : Nat) = i) (hq : lv[q]? = some (i, .long x)) (k : V p l e R s m args below meth c nL D cy ad G A cells slots Q (pc + 1) lv (.long x :: st) M) : V p l e R s m args below meth c nL D cy ad G A cells slots Q pc lv (st) M :=
  fun H locs ls h1 h2 h3 => lv_lload_n C.1 C.2.1 hd hi (lv_at h3 q hq) (k H locs ls h1 h2 h3)
theorem V_lload (C : CX p s m args c cc nL own D cy ad G A R d cells slots) {i : Nat} {x : Int64} (q : Nat) (hd : decode cc pc = .ok (.lload i, 2)) (hq : lv[q]? = some (i, .long x)) (k : V p l e R s m args below meth c nL D cy ad G A cells slots Q (pc + 2) lv (.long x :: st) M) : V p l e R s m args below meth c nL D cy ad G A cells slots Q pc lv (st) M :=
  fun H locs ls h1 h2 h3 => lv_lload C.1 C.2.1 hd (lv_at h3 q hq) (k H locs ls h1 h2 h3)
theorem V_aload_n (C : CX p s m args c cc nL own D cy ad G A R d cells slots) {n : Fin 4} {i : Nat} {x : Nat} (q : Nat) (hd : decode cc pc = .ok (.aload_n n, 1)) (hi : (n : Nat) = i) (hq : lv[q]? = some (i, .ref x)) (k : V p l e R s m args below meth c nL D cy ad G A cells slots Q (pc + 1) lv (.ref x :: st) M) : V p l e R s m args below meth c nL D cy ad G A cells slots Q pc lv (st) M :=
  fun H locs ls h1 h2 h3 => lv_aload_n C.1 C.2.1 hd hi (lv_at h3 q hq) (k H locs ls h1 h2 h3)
theorem V_aload (C : CX p s m args c cc nL own D cy ad G A R d cells slots) {i : Nat} {x : Nat} (q : Nat) (hd : decode cc pc = .ok (.aload i, 2)) (hq : lv[q]? = some (i, .ref x)) (k : V p l e R s m args below meth c nL D cy ad G A cells slots Q (pc + 2) lv (.ref x :: st) M) : V p l e R s m args below meth c nL D cy ad G A cells slots Q pc lv (st) M :=
  fun H locs ls h1 h2 h3 => lv_aload C.1 C.2.1 hd (lv_at h3 q hq) (k H locs ls h1 h2 h3)
theorem V_iadd (C : CX p s m args c cc nL own D cy ad G A R d cells slots) {x y : Int32} (hd : decode cc pc = .ok (.iadd, 1)) (k : V p l e R s m args below meth c nL D cy ad G A cells slots Q (pc + 1) lv (.int (x + y) :: st) M) : V p l e R s m args below meth c nL D cy ad G A cells slots Q pc lv (.int y :: .int x :: st) M :=
  fun H locs ls h1 h2 h3 => lv_iadd C.1 C.2.1 hd (k H locs ls h1 h2 h3)
theorem V_isub (C : CX p s m args c cc nL own D cy ad G A R d cells slots) {x y : Int32} (hd : decode cc pc = .ok (.isub, 1)) (k : V p l e R s m args below meth c nL D cy ad G A cells slots Q (pc + 1) lv (.int (x - y) :: st) M) : V p l e R s m args below meth c nL D cy ad G A cells slots Q pc lv (.int y :: .int x :: st) M :=
  fun H locs ls h1 h2 h3 => lv_isub C.1 C.2.1 hd (k H locs ls h1 h2 h3)
theorem V_imul (C : CX p s m args c cc nL own D cy ad G A R d cells slots) {x y : Int32} (hd : decode cc pc = .ok (.imul, 1)) (k : V p l e R s m args below meth c nL D cy ad G A cells slots Q (pc + 1) lv (.int (x * y) :: st) M) : V p l e R s m args below meth c nL D cy ad G A cells slots Q pc lv (.int y :: .int x :: st) M :=
  fun H locs ls h1 h2 h3 => lv_imul C.1 C.2.1 hd (k H locs ls h1 h2 h3)
theorem V_iand (C : CX p s m args c cc nL own D cy ad G A R d cells slots) {x y : Int32} (hd : decode cc pc = .ok (.iand, 1)) (k : V p l e R s m args below meth c nL D cy ad G A cells slots Q (pc + 1) lv (.int (x &&& y) :: st) M) : V p l e R s m args below meth c nL D cy ad G A cells slots Q pc lv (.int y :: .int x :: st) M :=
  fun H locs ls h1 h2 h3 => lv_iand C.1 C.2.1 hd (k H locs ls h1 h2 h3)
theorem V_ior (C : CX p s m args c cc nL own D cy ad G A R d cells slots) {x y : Int32} (hd : decode cc pc = .ok (.ior, 1)) (k : V p l e R s m args below meth c nL D cy ad G A cells slots Q (pc + 1) lv (.int (x ||| y) :: st) M) : V p l e R s m args below meth c nL D cy ad G A cells slots Q pc lv (.int y :: .int x :: st) M :=
  fun H locs ls h1 h2 h3 => lv_ior C.1 C.2.1 hd (k H locs ls h1 h2 h3)
theorem V_ixor (C : CX p s m args c cc nL own D cy ad G A R d cells slots) {x y : Int32} (hd : decode cc pc = .ok (.ixor, 1)) (k : V p l e R s m args below meth c nL D cy ad G A cells slots Q (pc + 1) lv (.int (x ^^^ y) :: st) M) : V p l e R s m args below meth c nL D cy ad G A cells slots Q pc lv (.int y :: .int x :: st) M :=
  fun H locs ls h1 h2 h3 => lv_ixor C.1 C.2.1 hd (k H locs ls h1 h2 h3)
theorem V_ladd (C : CX p s m args c cc nL own D cy ad G A R d cells slots) {x y : Int64} (hd : decode cc pc = .ok (.ladd, 1)) (k : V p l e R s m args below meth c nL D cy ad G A cells slots Q (pc + 1) lv (.long (x + y) :: st) M) : V p l e R s m args below meth c nL D cy ad G A cells slots Q pc lv (.long y :: .long x :: st) M :=
  fun H locs ls h1 h2 h3 => lv_ladd C.1 C.2.1 hd (k H locs ls h1 h2 h3)
theorem V_lsub (C : CX p s m args c cc nL own D cy ad G A R d cells slots) {x y : Int64} (hd : decode cc pc = .ok (.lsub, 1)) (k : V p l e R s m args below meth c nL D cy ad G A cells slots Q (pc + 1) lv (.long (x - y) :: st) M) : V p l e R s m args below meth c nL D cy ad G A cells slots Q pc lv (.long y :: .long x :: st) M :=
  fun H locs ls h1 h2 h3 => lv_lsub C.1 C.2.1 hd (k H locs ls h1 h2 h3)
theorem V_lmul (C : CX p s m args c cc nL own D cy ad G A R d cells slots) {x y : Int64} (hd : decode cc pc = .ok (.lmul, 1)) (k : V p l e R s m args below meth c nL D cy ad G A cells slots Q (pc + 1) lv (.long (x * y) :: st) M) : V p l e R s m args below meth c nL D cy ad G A cells slots Q pc lv (.long y :: .long x :: st) M :=
  fun H locs ls h1 h2 h3 => lv_lmul C.1 C.2.1 hd (k H locs ls h1 h2 h3)
theorem V_idiv (C : CX p s m args c cc nL own D cy ad G A R d cells slots) {x y : Int32} (hd : decode cc pc = .ok (.idiv, 1)) (hne : ¬ y = 0) (k : V p l e R s m args below meth c nL D cy ad G A cells slots Q (pc + 1) lv (.int (x / y) :: st) M) : V p l e R s m args below meth c nL D cy ad G A cells slots Q pc lv (.int y :: .int x :: st) M :=
  fun H locs ls h1 h2 h3 => lv_idiv C.1 C.2.1 hd hne (k H locs ls h1 h2 h3)
theorem V_irem (C : CX p s m args c cc nL own D cy ad G A R d cells slots) {x y : Int32} (hd : decode cc pc = .ok (.irem, 1)) (hne : ¬ y = 0) (k : V p l e R s m args below meth c nL D cy ad G A cells slots Q (pc + 1) lv (.int (x - x / y * y) :: st) M) : V p l e R s m args below meth c nL D cy ad G A cells slots Q pc lv (.int y :: .int x :: st) M :=
  fun H locs ls h1 h2 h3 => lv_irem C.1 C.2.1 hd hne (k H locs ls h1 h2 h3)
theorem V_ldiv (C : CX p s m args c cc nL own D cy ad G A R d cells slots) {x y : Int64} (hd : decode cc pc = .ok (.ldiv, 1)) (hne : ¬ y = 0) (k : V p l e R s m args below meth c nL D cy ad G A cells slots Q (pc + 1) lv (.long (x / y) :: st) M) : V p l e R s m args below meth c nL D cy ad G A cells slots Q pc lv (.long y :: .long x :: st) M :=
  fun H locs ls h1 h2 h3 => lv_ldiv C.1 C.2.1 hd hne (k H locs ls h1 h2 h3)
theorem V_lrem (C : CX p s m args c cc nL own D cy ad G A R d cells slots) {x y : Int64} (hd : decode cc pc = .ok (.lrem, 1)) (hne : ¬ y = 0) (k : V p l e R s m args below meth c nL D cy ad G A cells slots Q (pc + 1) lv (.long (x - x / y * y) :: st) M) : V p l e R s m args below meth c nL D cy ad G A cells slots Q pc lv (.long y :: .long x :: st) M :=
  fun H locs ls h1 h2 h3 => lv_lrem C.1 C.2.1 hd hne (k H locs ls h1 h2 h3)
theorem V_ineg (C : CX p s m args c cc nL own D cy ad G A R d cells slots) {x : Int32} (hd : decode cc pc = .ok (.ineg, 1)) (k : V p l e R s m args below meth c nL D cy ad G A cells slots Q (pc + 1) lv (.int (-x) :: st) M) : V p l e R s m args below meth c nL D cy ad G A cells slots Q pc lv (.int x :: st) M :=
  fun H locs ls h1 h2 h3 => lv_ineg C.1 C.2.1 hd (k H locs ls h1 h2 h3)
theorem V_ishl (C : CX p s m args c cc nL own D cy ad G A R d cells slots) {x y : Int32} (hd : decode cc pc = .ok (.ishl, 1)) (k : V p l e R s m args below meth c nL D cy ad G A cells slots Q (pc + 1) lv (.int (x <<< (y &&& 31)) :: st) M) : V p l e R s m args below meth c nL D cy ad G A cells slots Q pc lv (.int y :: .int x :: st) M :=
  fun H locs ls h1 h2 h3 => lv_ishl C.1 C.2.1 hd (k H locs ls h1 h2 h3)
theorem V_ishr (C : CX p s m args c cc nL own D cy ad G A R d cells slots) {x y : Int32} (hd : decode cc pc = .ok (.ishr, 1)) (k : V p l e R s m args below meth c nL D cy ad G A cells slots Q (pc + 1) lv (.int (x >>> (y &&& 31)) :: st) M) : V p l e R s m args below meth c nL D cy ad G A cells slots Q pc lv (.int y :: .int x :: st) M :=
  fun H locs ls h1 h2 h3 => lv_ishr C.1 C.2.1 hd (k H locs ls h1 h2 h3)
theorem V_iushr (C : CX p s m args c cc nL own D cy ad G A R d cells slots) {x y : Int32} (hd : decode cc pc = .ok (.iushr, 1)) (k : V p l e R s m args below meth c nL D cy ad G A cells slots Q (pc + 1) lv (.int ((x.toUInt32 >>> (y.toUInt32 &&& Int32.toUInt32 31)).toInt32) :: st) M) : V p l e R s m args below meth c nL D cy ad G A cells slots Q pc lv (.int y :: .int x :: st) M :=
  fun H locs ls h1 h2 h3 => lv_iushr C.1 C.2.1 hd rfl (k H locs ls h1 h2 h3)
theorem V_i2l (C : CX p s m args c cc nL own D cy ad G A R d cells slots) {x : Int32} (hd : decode cc pc = .ok (.i2l, 1)) (k : V p l e R s m args below meth c nL D cy ad G A cells slots Q (pc + 1) lv (.long x.toInt64 :: st) M) : V p l e R s m args below meth c nL D cy ad G A cells slots Q pc lv (.int x :: st) M :=
  fun H locs ls h1 h2 h3 => lv_i2l C.1 C.2.1 hd rfl (k H locs ls h1 h2 h3)
theorem V_l2i (C : CX p s m args c cc nL own D cy ad G A R d cells slots) {x : Int64} (hd : decode cc pc = .ok (.l2i, 1)) (k : V p l e R s m args below meth c nL D cy ad G A cells slots Q (pc + 1) lv (.int x.toInt32 :: st) M) : V p l e R s m args below meth c nL D cy ad G A cells slots Q pc lv (.long x :: st) M :=
  fun H locs ls h1 h2 h3 => lv_l2i C.1 C.2.1 hd rfl (k H locs ls h1 h2 h3)
theorem V_i2b (C : CX p s m args c cc nL own D cy ad G A R d cells slots) {x : Int32} (hd : decode cc pc = .ok (.i2b, 1)) (k : V p l e R s m args below meth c nL D cy ad G A cells slots Q (pc + 1) lv (.int x.toInt8.toInt32 :: st) M) : V p l e R s m args below meth c nL D cy ad G A cells slots Q pc lv (.int x :: st) M :=
  fun H locs ls h1 h2 h3 => lv_i2b C.1 C.2.1 hd rfl (k H locs ls h1 h2 h3)
theorem V_i2s (C : CX p s m args c cc nL own D cy ad G A R d cells slots) {x : Int32} (hd : decode cc pc = .ok (.i2s, 1)) (k : V p l e R s m args below meth c nL D cy ad G A cells slots Q (pc + 1) lv (.int x.toInt16.toInt32 :: st) M) : V p l e R s m args below meth c nL D cy ad G A cells slots Q pc lv (.int x :: st) M :=
  fun H locs ls h1 h2 h3 => lv_i2s C.1 C.2.1 hd rfl (k H locs ls h1 h2 h3)
theorem V_i2c (C : CX p s m args c cc nL own D cy ad G A R d cells slots) {x : Int32} (hd : decode cc pc = .ok (.i2c, 1)) (k : V p l e R s m args below meth c nL D cy ad G A cells slots Q (pc + 1) lv (.int (x.toUInt32 % 65536).toInt32 :: st) M) : V p l e R s m args below meth c nL D cy ad G A cells slots Q pc lv (.int x :: st) M :=
  fun H locs ls h1 h2 h3 => lv_i2c C.1 C.2.1 hd rfl (k H locs ls h1 h2 h3)
theorem V_lcmp (C : CX p s m args c cc nL own D cy ad G A R d cells slots) {x y : Int64} (hd : decode cc pc = .ok (.lcmp, 1)) (k : V p l e R s m args below meth c nL D cy ad G A cells slots Q (pc + 1) lv (.int (lg_cmp x y) :: st) M) : V p l e R s m args below meth c nL D cy ad G A cells slots Q pc lv (.long y :: .long x :: st) M :=
  fun H locs ls h1 h2 h3 => W.lcmp C.1 C.2.1 hd (k H locs ls h1 h2 h3)
theorem V_dup (C : CX p s m args c cc nL own D cy ad G A R d cells slots) {x : Value} (hd : decode cc pc = .ok (.dup, 1)) (hc : x.category = 1) (k : V p l e R s m args below meth c nL D cy ad G A cells slots Q (pc + 1) lv (x :: x :: st) M) : V p l e R s m args below meth c nL D cy ad G A cells slots Q pc lv (x :: st) M :=
  fun H locs ls h1 h2 h3 => lv_dup C.1 C.2.1 hd hc (k H locs ls h1 h2 h3)
theorem V_pop (C : CX p s m args c cc nL own D cy ad G A R d cells slots) {x : Value} (hd : decode cc pc = .ok (.pop, 1)) (hc : x.category = 1) (k : V p l e R s m args below meth c nL D cy ad G A cells slots Q (pc + 1) lv (st) M) : V p l e R s m args below meth c nL D cy ad G A cells slots Q pc lv (x :: st) M :=
  fun H locs ls h1 h2 h3 => lv_pop C.1 C.2.1 hd hc (k H locs ls h1 h2 h3)
theorem V_dup2 (C : CX p s m args c cc nL own D cy ad G A R d cells slots) {x y : Value} (hd : decode cc pc = .ok (.dup2, 1)) (hc : x.category = 1) (hc2 : y.category = 1) (k : V p l e R s m args below meth c nL D cy ad G A cells slots Q (pc + 1) lv (x :: y :: x :: y :: st) M) : V p l e R s m args below meth c nL D cy ad G A cells slots Q pc lv (x :: y :: st) M :=
  fun H locs ls h1 h2 h3 => lv_dup2_11 C.1 C.2.1 hd hc hc2 (k H locs ls h1 h2 h3)
theorem V_ldc (C : CX p s m args c cc nL own D cy ad G A R d cells slots) {index : Nat} {v : Int32} (hd : decode cc pc = .ok (.ldc index, 2)) (hw : Cond.constant own index v ∈ lw_good) (k : V p l e R s m args below meth c nL D cy ad G A cells slots Q (pc + 2) lv (.int v :: st) M) : V p l e R s m args below meth c nL D cy ad G A cells slots Q pc lv (st) M :=
  fun H locs ls h1 h2 h3 => lv_ldc C.1 C.2.1 C.2.2.2.1 (C.2.2.2.2.1 _ hw) hd (k H locs ls h1 h2 h3)
theorem V_ldc2 (C : CX p s m args c cc nL own D cy ad G A R d cells slots) {index : Nat} {v : Int64} (hd : decode cc pc = .ok (.ldc2_w index, 3)) (hw : Cond.constantLong own index v ∈ lw_good) (k : V p l e R s m args below meth c nL D cy ad G A cells slots Q (pc + 3) lv (.long v :: st) M) : V p l e R s m args below meth c nL D cy ad G A cells slots Q pc lv (st) M :=
  fun H locs ls h1 h2 h3 => lv_ldc2 C.1 C.2.1 C.2.2.2.1 (C.2.2.2.2.1 _ hw) hd (k H locs ls h1 h2 h3)
theorem V_icmp_eq (C : CX p s m args c cc nL own D cy ad G A R d cells slots) {x y : Int32} {off : Int} {tgt : Nat} (hd : decode cc pc = .ok (.if_icmp .eq off, 3)) (ht : (pc : Int) + off = (tgt : Int)) (kt : x = y → V p l e R s m args below meth c nL D cy ad G A cells slots Q tgt lv st M) (kf : ¬ x = y → V p l e R s m args below meth c nL D cy ad G A cells slots Q (pc + 3) lv st M) : V p l e R s m args below meth c nL D cy ad G A cells slots Q pc lv (.int y :: .int x :: st) M :=
  fun H locs ls h1 h2 h3 => lv_icmp_eq C.1 C.2.1 hd ht (fun h => kt h H locs ls h1 h2 h3) (fun h => kf h H locs ls h1 h2 h3)
theorem V_if_eq (C : CX p s m args c cc nL own D cy ad G A R d cells slots) {x : Int32} {off : Int} {tgt : Nat} (hd : decode cc pc = .ok (.ifCond .eq off, 3)) (ht : (pc : Int) + off = (tgt : Int)) (kt : x = 0 → V p l e R s m args below meth c nL D cy ad G A cells slots Q tgt lv st M) (kf : ¬ x = 0 → V p l e R s m args below meth c nL D cy ad G A cells slots Q (pc + 3) lv st M) : V p l e R s m args below meth c nL D cy ad G A cells slots Q pc lv (.int x :: st) M :=
  fun H locs ls h1 h2 h3 => lv_if_eq C.1 C.2.1 hd ht (fun h => kt h H locs ls h1 h2 h3) (fun h => kf h H locs ls h1 h2 h3)
theorem V_icmp_ne (C : CX p s m args c cc nL own D cy ad G A R d cells slots) {x y : Int32} {off : Int} {tgt : Nat} (hd : decode cc pc = .ok (.if_icmp .ne off, 3)) (ht : (pc : Int) + off = (tgt : Int)) (kt : ¬ x = y → V p l e R s m args below meth c nL D cy ad G A cells slots Q tgt lv st M) (kf : x = y → V p l e R s m args below meth c nL D cy ad G A cells slots Q (pc + 3) lv st M) : V p l e R s m args below meth c nL D cy ad G A cells slots Q pc lv (.int y :: .int x :: st) M :=
  fun H locs ls h1 h2 h3 => lv_icmp_ne C.1 C.2.1 hd ht (fun h => kt h H locs ls h1 h2 h3) (fun h => kf h H locs ls h1 h2 h3)
theorem V_if_ne (C : CX p s m args c cc nL own D cy ad G A R d cells slots) {x : Int32} {off : Int} {tgt : Nat} (hd : decode cc pc = .ok (.ifCond .ne off, 3)) (ht : (pc : Int) + off = (tgt : Int)) (kt : ¬ x = 0 → V p l e R s m args below meth c nL D cy ad G A cells slots Q tgt lv st M) (kf : x = 0 → V p l e R s m args below meth c nL D cy ad G A cells slots Q (pc + 3) lv st M) : V p l e R s m args below meth c nL D cy ad G A cells slots Q pc lv (.int x :: st) M :=
  fun H locs ls h1 h2 h3 => lv_if_ne C.1 C.2.1 hd ht (fun h => kt h H locs ls h1 h2 h3) (fun h => kf h H locs ls h1 h2 h3)
theorem V_icmp_lt (C : CX p s m args c cc nL own D cy ad G A R d cells slots) {x y : Int32} {off : Int} {tgt : Nat} (hd : decode cc pc = .ok (.if_icmp .lt off, 3)) (ht : (pc : Int) + off = (tgt : Int)) (kt : x < y → V p l e R s m args below meth c nL D cy ad G A cells slots Q tgt lv st M) (kf : ¬ x < y → V p l e R s m args below meth c nL D cy ad G A cells slots Q (pc + 3) lv st M) : V p l e R s m args below meth c nL D cy ad G A cells slots Q pc lv (.int y :: .int x :: st) M :=
  fun H locs ls h1 h2 h3 => lv_icmp_lt C.1 C.2.1 hd ht (fun h => kt h H locs ls h1 h2 h3) (fun h => kf h H locs ls h1 h2 h3)
theorem V_if_lt (C : CX p s m args c cc nL own D cy ad G A R d cells slots) {x : Int32} {off : Int} {tgt : Nat} (hd : decode cc pc = .ok (.ifCond .lt off, 3)) (ht : (pc : Int) + off = (tgt : Int)) (kt : x < 0 → V p l e R s m args below meth c nL D cy ad G A cells slots Q tgt lv st M) (kf : ¬ x < 0 → V p l e R s m args below meth c nL D cy ad G A cells slots Q (pc + 3) lv st M) : V p l e R s m args below meth c nL D cy ad G A cells slots Q pc lv (.int x :: st) M :=
  fun H locs ls h1 h2 h3 => lv_if_lt C.1 C.2.1 hd ht (fun h => kt h H locs ls h1 h2 h3) (fun h => kf h H locs ls h1 h2 h3)
theorem V_icmp_ge (C : CX p s m args c cc nL own D cy ad G A R d cells slots) {x y : Int32} {off : Int} {tgt : Nat} (hd : decode cc pc = .ok (.if_icmp .ge off, 3)) (ht : (pc : Int) + off = (tgt : Int)) (kt : y ≤ x → V p l e R s m args below meth c nL D cy ad G A cells slots Q tgt lv st M) (kf : ¬ y ≤ x → V p l e R s m args below meth c nL D cy ad G A cells slots Q (pc + 3) lv st M) : V p l e R s m args below meth c nL D cy ad G A cells slots Q pc lv (.int y :: .int x :: st) M :=
  fun H locs ls h1 h2 h3 => lv_icmp_ge C.1 C.2.1 hd ht (fun h => kt h H locs ls h1 h2 h3) (fun h => kf h H locs ls h1 h2 h3)
theorem V_if_ge (C : CX p s m args c cc nL own D cy ad G A R d cells slots) {x : Int32} {off : Int} {tgt : Nat} (hd : decode cc pc = .ok (.ifCond .ge off, 3)) (ht : (pc : Int) + off = (tgt : Int)) (kt : 0 ≤ x → V p l e R s m args below meth c nL D cy ad G A cells slots Q tgt lv st M) (kf : ¬ 0 ≤ x → V p l e R s m args below meth c nL D cy ad G A cells slots Q (pc + 3) lv st M) : V p l e R s m args below meth c nL D cy ad G A cells slots Q pc lv (.int x :: st) M :=
  fun H locs ls h1 h2 h3 => lv_if_ge C.1 C.2.1 hd ht (fun h => kt h H locs ls h1 h2 h3) (fun h => kf h H locs ls h1 h2 h3)
theorem V_icmp_gt (C : CX p s m args c cc nL own D cy ad G A R d cells slots) {x y : Int32} {off : Int} {tgt : Nat} (hd : decode cc pc = .ok (.if_icmp .gt off, 3)) (ht : (pc : Int) + off = (tgt : Int)) (kt : y < x → V p l e R s m args below meth c nL D cy ad G A cells slots Q tgt lv st M) (kf : ¬ y < x → V p l e R s m args below meth c nL D cy ad G A cells slots Q (pc + 3) lv st M) : V p l e R s m args below meth c nL D cy ad G A cells slots Q pc lv (.int y :: .int x :: st) M :=
  fun H locs ls h1 h2 h3 => lv_icmp_gt C.1 C.2.1 hd ht (fun h => kt h H locs ls h1 h2 h3) (fun h => kf h H locs ls h1 h2 h3)
theorem V_if_gt (C : CX p s m args c cc nL own D cy ad G A R d cells slots) {x : Int32} {off : Int} {tgt : Nat} (hd : decode cc pc = .ok (.ifCond .gt off, 3)) (ht : (pc : Int) + off = (tgt : Int)) (kt : 0 < x → V p l e R s m args below meth c nL D cy ad G A cells slots Q tgt lv st M) (kf : ¬ 0 < x → V p l e R s m args below meth c nL D cy ad G A cells slots Q (pc + 3) lv st M) : V p l e R s m args below meth c nL D cy ad G A cells slots Q pc lv (.int x :: st) M :=
  fun H locs ls h1 h2 h3 => lv_if_gt C.1 C.2.1 hd ht (fun h => kt h H locs ls h1 h2 h3) (fun h => kf h H locs ls h1 h2 h3)
theorem V_icmp_le (C : CX p s m args c cc nL own D cy ad G A R d cells slots) {x y : Int32} {off : Int} {tgt : Nat} (hd : decode cc pc = .ok (.if_icmp .le off, 3)) (ht : (pc : Int) + off = (tgt : Int)) (kt : x ≤ y → V p l e R s m args below meth c nL D cy ad G A cells slots Q tgt lv st M) (kf : ¬ x ≤ y → V p l e R s m args below meth c nL D cy ad G A cells slots Q (pc + 3) lv st M) : V p l e R s m args below meth c nL D cy ad G A cells slots Q pc lv (.int y :: .int x :: st) M :=
  fun H locs ls h1 h2 h3 => lv_icmp_le C.1 C.2.1 hd ht (fun h => kt h H locs ls h1 h2 h3) (fun h => kf h H locs ls h1 h2 h3)
theorem V_if_le (C : CX p s m args c cc nL own D cy ad G A R d cells slots) {x : Int32} {off : Int} {tgt : Nat} (hd : decode cc pc = .ok (.ifCond .le off, 3)) (ht : (pc : Int) + off = (tgt : Int)) (kt : x ≤ 0 → V p l e R s m args below meth c nL D cy ad G A cells slots Q tgt lv st M) (kf : ¬ x ≤ 0 → V p l e R s m args below meth c nL D cy ad G A cells slots Q (pc + 3) lv st M) : V p l e R s m args below meth c nL D cy ad G A cells slots Q pc lv (.int x :: st) M :=
  fun H locs ls h1 h2 h3 => lv_if_le C.1 C.2.1 hd ht (fun h => kt h H locs ls h1 h2 h3) (fun h => kf h H locs ls h1 h2 h3)
theorem V_goto (C : CX p s m args c cc nL own D cy ad G A R d cells slots) {off : Int} {tgt : Nat} (hd : decode cc pc = .ok (.goto off, 3)) (ht : (pc : Int) + off = (tgt : Int)) (k : V p l e R s m args below meth c nL D cy ad G A cells slots Q tgt lv st M) : V p l e R s m args below meth c nL D cy ad G A cells slots Q pc lv st M :=
  fun H locs ls h1 h2 h3 => lv_goto C.1 C.2.1 hd ht (k H locs ls h1 h2 h3)
theorem V_tblOut (C : CX p s m args c cc nL own D cy ad G A R d cells slots) {dflt lo hi : Int} {offs : Array Int} {len : Nat} {x : Int32} {tgt : Nat} (hd : decode cc pc = .ok (.tableswitch dflt lo hi offs, len)) (h : x.toInt < lo ∨ hi < x.toInt) (ht : (pc : Int) + dflt = (tgt : Int)) (k : V p l e R s m args below meth c nL D cy ad G A cells slots Q tgt lv st M) : V p l e R s m args below meth c nL D cy ad G A cells slots Q pc lv (.int x :: st) M :=
  fun H locs ls h1 h2 h3 => lv_tableOut C.1 C.2.1 hd h ht (k H locs ls h1 h2 h3)
theorem V_tblIn (C : CX p s m args c cc nL own D cy ad G A R d cells slots) {dflt lo hi : Int} {offs : Array Int} {len : Nat} {x : Int32} {off : Int} {tgt : Nat} (hd : decode cc pc = .ok (.tableswitch dflt lo hi offs, len)) (h0 : ¬ x.toInt < lo) (hh : ¬ hi < x.toInt) (ho : offs[(x.toInt - lo).toNat]? = some off) (ht : (pc : Int) + off = (tgt : Int)) (k : V p l e R s m args below meth c nL D cy ad G A cells slots Q tgt lv st M) : V p l e R s m args below meth c nL D cy ad G A cells slots Q pc lv (.int x :: st) M :=
  fun H locs ls h1 h2 h3 => lv_tableIn C.1 C.2.1 hd h0 hh ho ht (k H locs ls h1 h2 h3)
theorem V_istore_n (C : CX p s m args c cc nL own D cy ad G A R d cells slots) {n : Fin 4} {i : Nat} {x : Int32} {lv' : List (Nat × Value)} (hd : decode cc pc = .ok (.istore_n n, 1)) (hi : (n : Nat) = i) (hn : i < nL) (hw : ∀ q ∈ lv, q.1 + 1 = i → q.2.category = 1) (hl : lset lv i (.int x) = lv') (k : V p l e R s m args below meth c nL D cy ad G A cells slots Q (pc + 1) lv' st M) : V p l e R s m args below meth c nL D cy ad G A cells slots Q pc lv (.int x :: st) M :=
  fun H locs ls h1 h2 h3 => lv_istore_n C.1 C.2.1 hd hi h3 hn rfl (fun ls' h4 => k H locs ls' h1 h2 (hl ▸ lset_has hw h4))
theorem V_istore (C : CX p s m args c cc nL own D cy ad G A R d cells slots) {i : Nat} {x : Int32} {lv' : List (Nat × Value)} (hd : decode cc pc = .ok (.istore i, 2)) (hn : i < nL) (hw : ∀ q ∈ lv, q.1 + 1 = i → q.2.category = 1) (hl : lset lv i (.int x) = lv') (k : V p l e R s m args below meth c nL D cy ad G A cells slots Q (pc + 2) lv' st M) : V p l e R s m args below meth c nL D cy ad G A cells slots Q pc lv (.int x :: st) M :=
  fun H locs ls h1 h2 h3 => lv_istore C.1 C.2.1 hd h3 hn rfl (fun ls' h4 => k H locs ls' h1 h2 (hl ▸ lset_has hw h4))
theorem V_astore_n (C : CX p s m args c cc nL own D cy ad G A R d cells slots) {n : Fin 4} {i : Nat} {x : Nat} {lv' : List (Nat × Value)} (hd : decode cc pc = .ok (.astore_n n, 1)) (hi : (n : Nat) = i) (hn : i < nL) (hw : ∀ q ∈ lv, q.1 + 1 = i → q.2.category = 1) (hl : lset lv i (.ref x) = lv') (k : V p l e R s m args below meth c nL D cy ad G A cells slots Q (pc + 1) lv' st M) : V p l e R s m args below meth c nL D cy ad G A cells slots Q pc lv (.ref x :: st) M :=
  fun H locs ls h1 h2 h3 => lv_astore_n C.1 C.2.1 hd hi h3 hn rfl (fun ls' h4 => k H locs ls' h1 h2 (hl ▸ lset_has hw h4))
theorem V_astore (C : CX p s m args c cc nL own D cy ad G A R d cells slots) {i : Nat} {x : Nat} {lv' : List (Nat × Value)} (hd : decode cc pc = .ok (.astore i, 2)) (hn : i < nL) (hw : ∀ q ∈ lv, q.1 + 1 = i → q.2.category = 1) (hl : lset lv i (.ref x) = lv') (k : V p l e R s m args below meth c nL D cy ad G A cells slots Q (pc + 2) lv' st M) : V p l e R s m args below meth c nL D cy ad G A cells slots Q pc lv (.ref x :: st) M :=
  fun H locs ls h1 h2 h3 => lv_astore C.1 C.2.1 hd h3 hn rfl (fun ls' h4 => k H locs ls' h1 h2 (hl ▸ lset_has hw h4))
theorem V_lstore_n (C : CX p s m args c cc nL own D cy ad G A R d cells slots) {n : Fin 4} {i : Nat} {x : Int64} {lv' : List (Nat × Value)} (hd : decode cc pc = .ok (.lstore_n n, 1)) (hi : (n : Nat) = i) (hn : i + 1 < nL) (hw : ∀ q ∈ lv, q.1 ≠ i + 1 ∧ (q.1 + 1 = i → q.2.category = 1)) (hl : lset lv i (.long x) = lv') (k : V p l e R s m args below meth c nL D cy ad G A cells slots Q (pc + 1) lv' st M) : V p l e R s m args below meth c nL D cy ad G A cells slots Q pc lv (.long x :: st) M :=
  fun H locs ls h1 h2 h3 => lv_lstore_n C.1 C.2.1 hd hi h3 hn rfl (fun ls' h4 => k H locs ls' h1 h2 (hl ▸ lset_hasL hw h4))
theorem V_lstore (C : CX p s m args c cc nL own D cy ad G A R d cells slots) {i : Nat} {x : Int64} {lv' : List (Nat × Value)} (hd : decode cc pc = .ok (.lstore i, 2)) (hn : i + 1 < nL) (hw : ∀ q ∈ lv, q.1 ≠ i + 1 ∧ (q.1 + 1 = i → q.2.category = 1)) (hl : lset lv i (.long x) = lv') (k : V p l e R s m args below meth c nL D cy ad G A cells slots Q (pc + 2) lv' st M) : V p l e R s m args below meth c nL D cy ad G A cells slots Q pc lv (.long x :: st) M :=
  fun H locs ls h1 h2 h3 => lv_lstore C.1 C.2.1 hd h3 hn rfl (fun ls' h4 => k H locs ls' h1 h2 (hl ▸ lset_hasL hw h4))
theorem V_iinc (C : CX p s m args c cc nL own D cy ad G A R d cells slots) {i : Nat} {n : Int} {x v : Int32} (q : Nat) {lv' : List (Nat × Value)} (hd : decode cc pc = .ok (.iinc i n, 3)) (hq : lv[q]? = some (i, .int x)) (hn : i < nL) (hw : ∀ q ∈ lv, q.1 + 1 = i → q.2.category = 1) (hv : x + Int32.ofInt n = v) (hl : lset lv i (.int v) = lv') (k : V p l e R s m args below meth c nL D cy ad G A cells slots Q (pc + 3) lv' st M) : V p l e R s m args below meth c nL D cy ad G A cells slots Q pc lv st M :=
  fun H locs ls h1 h2 h3 => lv_iinc C.1 C.2.1 hd h3 hq hv hn rfl (fun ls' h4 => k H locs ls' h1 h2 (hl ▸ lset_has hw h4))
theorem V_get (C : CX p s m args c cc nL own D cy ad G A R d cells slots) {g i ci index N k : Nat} {Cn : String} {T : u_T} {fs : List Value} {v : Value} (hg : wG G g i) (hF : wF cy ad M.2 g i (M.1 g i) = .inr (ci, fs)) (hc : classes[ci]? = some (Cn, T, N)) (hk : k < N) (hin : ∀ w ∈ u_ws Cn T N, w ∈ lw_good) (hT : (T k).1 = Cn) (hl : Cond.fieldLink own index Cn (T k).2.1 (T k).2.2.1 ∈ lw_good) (hv : fs[k]? = some v) (hd : decode cc pc = .ok (.getfield index, 3)) (kk : V p l e R s m args below meth c nL D cy ad G A cells slots Q (pc + 3) lv (v :: st) M) : V p l e R s m args below meth c nL D cy ad G A cells slots Q pc lv (.ref (ad g i) :: st) M := by
  intro H locs ls h1 h2 h3
  obtain ⟨q, hq⟩ := wL_at hg
  exact va_get C.1 C.2.1 C.2.2.2.2.1 hin C.2.2.2.1 C.2.2.2.2.2.1.1 h1 q ((wL_get hq).trans (by rw [hF])) hc k hk (C.2.2.2.2.1 _ hl) (by rw [hT]; exact fun _ h => h) hv hd (kk H locs ls h1 h2 h3)
theorem V_getN (C : CX p s m args c cc nL own D cy ad G A R d cells slots) {g i ci index N k : Nat} {Cn host : String} {T : u_T} {fs : List Value} {v : Value} (hg : wG G g i) (hF : wF cy ad M.2 g i (M.1 g i) = .inr (ci, fs)) (hc : classes[ci]? = some (Cn, T, N)) (hk : k < N) (hin : ∀ w ∈ u_ws Cn T N, w ∈ lw_good) (hT : (T k).1 = Cn) (hl : Cond.fieldLinkNest own index Cn (T k).2.1 (T k).2.2.1 host ∈ lw_tbl) (hv : fs[k]? = some v) (hd : decode cc pc = .ok (.getfield index, 3)) (kk : V p l e R s m args below meth c nL D cy ad G A cells slots Q (pc + 3) lv (v :: st) M) : V p l e R s m args below meth c nL D cy ad G A cells slots Q pc lv (.ref (ad g i) :: st) M := by
  intro H locs ls h1 h2 h3
  obtain ⟨q, hq⟩ := wL_at hg
  exact va_getN C.1 C.2.1 C.2.2.2.2.1 hin C.2.2.2.1 C.2.2.2.2.2.1.1 h1 q ((wL_get hq).trans (by rw [hF])) hc k hk (va_Nw.use rfl (C.2.2.2.2.2.1.2.1.1 _ _ _ _ _ _ hl)) (by rw [hT]; exact fun _ h => h) hv hd (kk H locs ls h1 h2 h3)
theorem V_put (C : CX p s m args c cc nL own D cy ad G A R d cells slots) {g i ci index N k : Nat} {Cn host : String} {T : u_T} {fs : List Value} {v : Value} {ty : FieldType} {M' : wS} (hg : wG G g i) (hF : wF cy ad M.2 g i (M.1 g i) = .inr (ci, fs)) (hc : classes[ci]? = some (Cn, T, N)) (hk : k < N) (hin : ∀ w ∈ u_ws Cn T N, w ∈ lw_good) (hT : (T k).1 = Cn) (ty0 : Nat → FieldType) (hty : ∀ k, k < N → parseFieldDescriptor (T k).2.2.1 = some (ty0 k)) (hnm : ∀ a, a < N → ∀ b, b < N → a ≠ b → (T a).2.1 ≠ (T b).2.1) (hfin : (T k).2.2.2 = false) (hdt : parseFieldDescriptor (T k).2.2.1 = some ty) (hn : narrow ty v = v) (hfit : fits ty v = true) (hlen : k < fs.length) (hl : Cond.fieldLink own index Cn (T k).2.1 (T k).2.2.1 ∈ lw_good)
    (hM : wF cy ad M'.2 g i (M'.1 g i) = .inr (ci, fs.set k v)) (ho : ∀ g' i', wG G g' i' → ¬ (g' = g ∧ i' = i) → wF cy ad M'.2 g' i' (M'.1 g' i') = wF cy ad M.2 g' i' (M.1 g' i')) (hd : decode cc pc = .ok (.putfield index, 3)) (kk : V p l e R s m args below meth c nL D cy ad G A cells slots Q (pc + 3) lv st M') : V p l e R s m args below meth c nL D cy ad G A cells slots Q pc lv (v :: .ref (ad g i) :: st) M := by
  intro H locs ls h1 h2 h3
  obtain ⟨q, hq⟩ := wL_at hg
  refine va_put C.1 C.2.1 C.2.2.2.2.1 hin ty0 hty hnm C.2.2.2.1 C.2.2.2.2.2.1.1 h1 (wD_of C.2.2.2.2.2.2.1 C.2.2.2.2.2.2.2.1 M) h2 q ((wL_get hq).trans (by rw [hF])) hc k hk (C.2.2.2.2.1 _ hl) (by rw [hT]; exact fun _ h => h) hfin hdt hn hfit hlen hd (fun H1 locs1 g1 _ g3 => ?_)
  refine kk H1 locs1 ls ?_ g3 h3
  rw [← hM, wL_set (wD_of (A := A) C.2.2.2.2.2.2.1 C.2.2.2.2.2.2.2.1 M) hq ho] at g1
  exact g1
theorem V_putN (C : CX p s m args c cc nL own D cy ad G A R d cells slots) {g i ci index N k : Nat} {Cn host : String} {T : u_T} {fs : List Value} {v : Value} {ty : FieldType} {M' : wS} (hg : wG G g i) (hF : wF cy ad M.2 g i (M.1 g i) = .inr (ci, fs)) (hc : classes[ci]? = some (Cn, T, N)) (hk : k < N) (hin : ∀ w ∈ u_ws Cn T N, w ∈ lw_good) (hT : (T k).1 = Cn) (ty0 : Nat → FieldType) (hty : ∀ k, k < N → parseFieldDescriptor (T k).2.2.1 = some (ty0 k)) (hnm : ∀ a, a < N → ∀ b, b < N → a ≠ b → (T a).2.1 ≠ (T b).2.1) (hfin : (T k).2.2.2 = false) (hdt : parseFieldDescriptor (T k).2.2.1 = some ty) (hn : narrow ty v = v) (hfit : fits ty v = true) (hlen : k < fs.length) (hl : Cond.fieldLinkNest own index Cn (T k).2.1 (T k).2.2.1 host ∈ lw_tbl)
    (hM : wF cy ad M'.2 g i (M'.1 g i) = .inr (ci, fs.set k v)) (ho : ∀ g' i', wG G g' i' → ¬ (g' = g ∧ i' = i) → wF cy ad M'.2 g' i' (M'.1 g' i') = wF cy ad M.2 g' i' (M.1 g' i')) (hd : decode cc pc = .ok (.putfield index, 3)) (kk : V p l e R s m args below meth c nL D cy ad G A cells slots Q (pc + 3) lv st M') : V p l e R s m args below meth c nL D cy ad G A cells slots Q pc lv (v :: .ref (ad g i) :: st) M := by
  intro H locs ls h1 h2 h3
  obtain ⟨q, hq⟩ := wL_at hg
  refine va_putN C.1 C.2.1 C.2.2.2.2.1 hin ty0 hty hnm C.2.2.2.1 C.2.2.2.2.2.1.1 h1 (wD_of C.2.2.2.2.2.2.1 C.2.2.2.2.2.2.2.1 M) h2 q ((wL_get hq).trans (by rw [hF])) hc k hk (va_Nw.use rfl (C.2.2.2.2.2.1.2.1.1 _ _ _ _ _ _ hl)) (by rw [hT]; exact fun _ h => h) hfin hdt hn hfit hlen hd (fun H1 locs1 g1 _ g3 => ?_)
  refine kk H1 locs1 ls ?_ g3 h3
  rw [← hM, wL_set (wD_of (A := A) C.2.2.2.2.2.2.1 C.2.2.2.2.2.2.2.1 M) hq ho] at g1
  exact g1
theorem mrow_oth {cy : Nat → ClassId} {ad : Nat → Nat → Nat} {M : wS} {g i : Nat} {f : Nat → Int32} {G : Nat} : ∀ g' i', wG G g' i' → ¬ (g' = g ∧ i' = i) → wF cy ad (mrow M g i f).2 g' i' ((mrow M g i f).1 g' i') = wF cy ad M.2 g' i' (M.1 g' i') := by
  intro g' i' _ h
  rw [mrow_ne M g i f h, mrow_2]
theorem wF_L {cy : Nat → ClassId} {ad : Nat → Nat → Nat} {L L' : Int64} {g i : Nat} {f : Nat → Int32} (h : g ≠ 30) : wF cy ad L g i f = wF cy ad L' g i f := by
  unfold wF
  split <;> first | rfl | (unfold wFm; split <;> first | rfl | exact absurd rfl h)
theorem mlong_oth {cy : Nat → ClassId} {ad : Nat → Nat → Nat} {M : wS} {x : Int64} {G : Nat} : ∀ g' i', wG G g' i' → ¬ (g' = 30 ∧ i' = 0) → wF cy ad ((M.1, x) : wS).2 g' i' (((M.1, x) : wS).1 g' i') = wF cy ad M.2 g' i' (M.1 g' i') := by
  intro g' i' hw h
  refine wF_L (fun e => h ⟨e, ?_⟩)
  subst e
  have h2 : i' < 1 := hw.2
  omega
theorem V_iald (C : CX p s m args c cc nL own D cy ad G A R d cells slots) {g i n : Nat} {x : Int32} (j : Nat) (hx : x = nI j) (hj : j < n) (hn : n < 2 ^ 31) (hg : wG G g i) (hF : wF cy ad M.2 g i (M.1 g i) = .inl (cy 0, n, .inl (M.1 g i))) (hd : decode cc pc = .ok (.iaload, 1)) (k : V p l e R s m args below meth c nL D cy ad G A cells slots Q (pc + 1) lv (.int (M.1 g i j) :: st) M) : V p l e R s m args below meth c nL D cy ad G A cells slots Q pc lv (.int x :: .ref (ad g i) :: st) M := by
  intro H locs ls h1 h2 h3
  obtain ⟨q, hq⟩ := wL_at hg
  subst hx
  refine va_iald C.1 C.2.1 C.2.2.2.2.2.1.1 h1 q 0 ((wL_get hq).trans (by rw [hF])) rfl (vp_in_nI hj hn) hd ?_
  rw [nI_clamp (Nat.lt_trans hj hn)]
  exact k H locs ls h1 h2 h3
theorem V_zald (C : CX p s m args c cc nL own D cy ad G A R d cells slots) {g i n : Nat} {x : Int32} (j : Nat) (hx : x = nI j) (hj : j < n) (hn : n < 2 ^ 31) (hg : wG G g i) (hF : wF cy ad M.2 g i (M.1 g i) = .inl (cy 1, n, .inl (M.1 g i))) (hd : decode cc pc = .ok (.baload, 1)) (k : V p l e R s m args below meth c nL D cy ad G A cells slots Q (pc + 1) lv (.int (M.1 g i j) :: st) M) : V p l e R s m args below meth c nL D cy ad G A cells slots Q pc lv (.int x :: .ref (ad g i) :: st) M := by
  intro H locs ls h1 h2 h3
  obtain ⟨q, hq⟩ := wL_at hg
  subst hx
  refine va_zald C.1 C.2.1 C.2.2.2.2.2.1.1 h1 q 1 ((wL_get hq).trans (by rw [hF])) rfl (vp_in_nI hj hn) hd ?_
  rw [nI_clamp (Nat.lt_trans hj hn)]
  exact k H locs ls h1 h2 h3
theorem V_aald (C : CX p s m args c cc nL own D cy ad G A R d cells slots) {g i n t tgt : Nat} {x : Int32} {Cn : String} (j : Nat) (hx : x = nI j) (hj : j < n) (hn : n < 2 ^ 31) (hg : wG G g i) (hF : wF cy ad M.2 g i (M.1 g i) = .inl (cy t, n, .inr (.inr (.inr (.inr (fun j => some (ad tgt j))))))) (ht : (wTys cy)[t]? = some (cy t, .object Cn)) (hd : decode cc pc = .ok (.aaload, 1)) (k : V p l e R s m args below meth c nL D cy ad G A cells slots Q (pc + 1) lv (.ref (ad tgt j) :: st) M) : V p l e R s m args below meth c nL D cy ad G A cells slots Q pc lv (.int x :: .ref (ad g i) :: st) M := by
  intro H locs ls h1 h2 h3
  obtain ⟨q, hq⟩ := wL_at hg
  subst hx
  refine va_aldq C.1 C.2.1 C.2.2.2.2.2.1.1 h1 q t ((wL_get hq).trans (by rw [hF])) ht (vp_in_nI hj hn) hd ?_
  rw [nI_clamp (Nat.lt_trans hj hn)]
  exact k H locs ls h1 h2 h3
theorem V_iast (C : CX p s m args c cc nL own D cy ad G A R d cells slots) {g i n : Nat} {x y : Int32} (j : Nat) (hx : x = nI j) (hj : j < n) (hn : n < 2 ^ 31) (hg : wG G g i) (hF : ∀ f, wF cy ad M.2 g i f = .inl (cy 0, n, .inl f)) (hd : decode cc pc = .ok (.iastore, 1)) (k : V p l e R s m args below meth c nL D cy ad G A cells slots Q (pc + 1) lv st (mset M g i j y)) : V p l e R s m args below meth c nL D cy ad G A cells slots Q pc lv (.int y :: .int x :: .ref (ad g i) :: st) M := by
  intro H locs ls h1 h2 h3
  obtain ⟨q, hq⟩ := wL_at hg
  subst hx
  refine va_iast C.1 C.2.1 C.2.2.2.2.2.1.1 h1 (wD_of C.2.2.2.2.2.2.1 C.2.2.2.2.2.2.2.1 M) h2 q 0 ((wL_get hq).trans (by rw [hF])) rfl (vp_in_nI hj hn) hd (fun H1 locs1 g1 _ g3 => ?_)
  refine k H1 locs1 ls ?_ g3 h3
  rw [nI_clamp (Nat.lt_trans hj hn), ← hF, ← mrow_self M g i (upd (M.1 g i) j y), ← mrow_2 M g i (upd (M.1 g i) j y), wL_set (wD_of (A := A) C.2.2.2.2.2.2.1 C.2.2.2.2.2.2.2.1 M) hq mrow_oth] at g1
  exact g1
theorem V_zast (C : CX p s m args c cc nL own D cy ad G A R d cells slots) {g i n : Nat} {x y : Int32} (j : Nat) (hx : x = nI j) (hj : j < n) (hn : n < 2 ^ 31) (hy : vp_nar .boolean y = y) (hg : wG G g i) (hF : ∀ f, wF cy ad M.2 g i f = .inl (cy 1, n, .inl f)) (hd : decode cc pc = .ok (.bastore, 1)) (k : V p l e R s m args below meth c nL D cy ad G A cells slots Q (pc + 1) lv st (mset M g i j y)) : V p l e R s m args below meth c nL D cy ad G A cells slots Q pc lv (.int y :: .int x :: .ref (ad g i) :: st) M := by
  intro H locs ls h1 h2 h3
  obtain ⟨q, hq⟩ := wL_at hg
  subst hx
  refine va_zast C.1 C.2.1 C.2.2.2.2.2.1.1 h1 (wD_of C.2.2.2.2.2.2.1 C.2.2.2.2.2.2.2.1 M) h2 q 1 ((wL_get hq).trans (by rw [hF])) rfl (vp_in_nI hj hn) hd (fun H1 locs1 g1 _ g3 => ?_)
  refine k H1 locs1 ls ?_ g3 h3
  rw [hy, nI_clamp (Nat.lt_trans hj hn), ← hF, ← mrow_self M g i (upd (M.1 g i) j y), ← mrow_2 M g i (upd (M.1 g i) j y), wL_set (wD_of (A := A) C.2.2.2.2.2.2.1 C.2.2.2.2.2.2.2.1 M) hq mrow_oth] at g1
  exact g1
theorem V_alen (C : CX p s m args c cc nL own D cy ad G A R d cells slots) {g i n : Nat} {v : Int32} (hg : wG G g i) (hF : wF cy ad M.2 g i (M.1 g i) = .inl (cy 0, n, .inl (M.1 g i))) (hv : Int32.ofNat n = v) (hd : decode cc pc = .ok (.arraylength, 1)) (k : V p l e R s m args below meth c nL D cy ad G A cells slots Q (pc + 1) lv (.int v :: st) M) : V p l e R s m args below meth c nL D cy ad G A cells slots Q pc lv (.ref (ad g i) :: st) M := by
  intro H locs ls h1 h2 h3
  obtain ⟨q, hq⟩ := wL_at hg
  exact va_alen C.1 C.2.1 C.2.2.2.2.2.1.1 h1 q 0 ((wL_get hq).trans (by rw [hF])) rfl hv hd (k H locs ls h1 h2 h3)
theorem V_copy (C : CX p s m args c cc nL own D cy ad G A R d cells slots) {g i g' i' n0 n1 index : Nat} {sp dp n : Int32} (a b k0 : Nat) (hsp : sp = nI a) (hdp : dp = nI b) (hn : n = nI k0) (ha : a + k0 ≤ n0) (hb : b + k0 ≤ n1) (hn0 : n0 < 2 ^ 31) (hn1 : n1 < 2 ^ 31) (hg : wG G g i) (hg' : wG G g' i') (hF : ∀ f, wF cy ad M.2 g i f = .inl (cy 0, n0, .inl f)) (hF' : ∀ f, wF cy ad M.2 g' i' f = .inl (cy 0, n1, .inl f))
    (hl : Cond.methodLink own index arraycopyName ∈ lw_good) (hnat : Cond.native arraycopyName ∈ lw_good) (hstat : Cond.static arraycopyName ∈ lw_good) (hini : Cond.initialized "java/lang/System" ∈ lw_good) (hd1 : 1 ≤ d) (hst : (st.map fun v => v.category).sum + (nativeFrameWords "java/lang/System" "arraycopy" 5 + 11) ≤ 40) (hd : decode cc pc = .ok (.invokestatic index, 3))
    (k : V p l e R s m args below meth c nL D cy ad G A cells slots Q (pc + 3) lv st (mrow M g' i' (va_cpy (M.1 g i) (M.1 g' i') a b k0))) : V p l e R s m args below meth c nL D cy ad G A cells slots Q pc lv (.int n :: .int dp :: .ref (ad g' i') :: .int sp :: .ref (ad g i) :: st) M := by
  intro H locs ls h1 h2 h3
  obtain ⟨q, hq⟩ := wL_at hg
  obtain ⟨q', hq'⟩ := wL_at hg'
  subst hsp; subst hdp; subst hn
  have ha1 : a < 2 ^ 31 := by omega
  have hb1 : b < 2 ^ 31 := by omega
  have hk1 : k0 < 2 ^ 31 := by omega
  have hR := C.2.2.2.2.2.2.2.2
  refine va_copyi C.1 C.2.1 (C.2.2.1.trans h3.1.symm) C.2.2.2.1 (C.2.2.2.2.1 _ hl) (C.2.2.2.2.1 _ hnat) (C.2.2.2.2.1 _ hstat) (C.2.2.2.2.1 _ hini) C.2.2.2.2.2.1.1 h1 (wD_of C.2.2.2.2.2.2.1 C.2.2.2.2.2.2.2.1 M) h2 q q' 0 0 (ty := .int) ((wL_get hq).trans (by rw [hF])) ((wL_get hq').trans (by rw [hF'])) rfl rfl rfl (nI_pos ha1) (nI_pos hb1) (nI_pos hk1) (by rw [nI_clamp ha1, nI_clamp hk1]; exact ha) (by rw [nI_clamp hb1, nI_clamp hk1]; exact hb) (fun _ _ => rfl) (by omega) (by omega) hd (fun H1 locs1 g1 _ g3 => ?_)
  refine k H1 locs1 ls ?_ g3 h3
  rw [nI_clamp ha1, nI_clamp hb1, nI_clamp hk1, ← hF', ← mrow_self M g' i' (va_cpy (M.1 g i) (M.1 g' i') a b k0), ← mrow_2 M g' i' (va_cpy (M.1 g i) (M.1 g' i') a b k0), wL_set (wD_of (A := A) C.2.2.2.2.2.2.1 C.2.2.2.2.2.2.2.1 M) hq' mrow_oth] at g1
  exact g1
theorem V_mmax (C : CX p s m args c cc nL own D cy ad G A R d cells slots) {index : Nat} {x y : Int32} (hl : Cond.methodLink own index Lib.Math.max.name ∈ lw_good) (hstat : Cond.static Lib.Math.max.name ∈ lw_good) (hini : Cond.initialized "java/lang/Math" ∈ lw_good) (hco : Cond.code Lib.Math.max.name Lib.Math.max.code 2 (some .int) ∈ lw_good) (hd1 : 1 ≤ d) (hst : (st.map fun v => v.category).sum + 13 ≤ 40) (hd : decode cc pc = .ok (.invokestatic index, 3)) (k : V p l e R s m args below meth c nL D cy ad G A cells slots Q (pc + 3) lv (.int (if x < y then y else x) :: st) M) : V p l e R s m args below meth c nL D cy ad G A cells slots Q pc lv (.int y :: .int x :: st) M := by
  intro H locs ls h1 h2 h3
  have hR := C.2.2.2.2.2.2.2.2
  exact va_mmax C.1 C.2.1 (C.2.2.1.trans h3.1.symm) C.2.2.2.1 (C.2.2.2.2.1 _ hl) (C.2.2.2.2.1 _ hstat) (C.2.2.2.2.1 _ hini) (C.2.2.2.2.1 _ hco) (by omega) (by omega) hR.2.2.1 hR.2.2.2 hd (k H locs ls h1 h2 h3)
theorem V_mmin (C : CX p s m args c cc nL own D cy ad G A R d cells slots) {index : Nat} {x y : Int32} (hl : Cond.methodLink own index Lib.Math.min.name ∈ lw_good) (hstat : Cond.static Lib.Math.min.name ∈ lw_good) (hini : Cond.initialized "java/lang/Math" ∈ lw_good) (hco : Cond.code Lib.Math.min.name Lib.Math.min.code 2 (some .int) ∈ lw_good) (hd1 : 1 ≤ d) (hst : (st.map fun v => v.category).sum + 13 ≤ 40) (hd : decode cc pc = .ok (.invokestatic index, 3)) (k : V p l e R s m args below meth c nL D cy ad G A cells slots Q (pc + 3) lv (.int (if y < x then y else x) :: st) M) : V p l e R s m args below meth c nL D cy ad G A cells slots Q pc lv (.int y :: .int x :: st) M := by
  intro H locs ls h1 h2 h3
  have hR := C.2.2.2.2.2.2.2.2
  exact va_mmin C.1 C.2.1 (C.2.2.1.trans h3.1.symm) C.2.2.2.1 (C.2.2.2.2.1 _ hl) (C.2.2.2.2.1 _ hstat) (C.2.2.2.2.1 _ hini) (C.2.2.2.2.1 _ hco) (by omega) (by omega) hR.2.2.1 hR.2.2.2 hd (k H locs ls h1 h2 h3)
/-! contracts -/
def wU (D : va_G) (cy : Nat → ClassId) (ad : Nat → Nat → Nat) (G : Nat) (M : wS) (U : State) : Prop := va_P D classes (wL cy ad G M) U.heap ∧ wEn D cy ad (wA ad G) U U.heap ∧ wInj ad G
def wQ (D : va_G) (cy : Nat → ClassId) (ad : Nat → Nat → Nat) (G : Nat) (Qf : Option Value → wS → Prop) : Array Value → State → Outcome → State → Prop := fun _ u oc t => (∃ r M', oc = .returned r ∧ Qf r M' ∧ va_P D classes (wL cy ad G M') t.heap) ∧ va_F (wA ad G) u t
def Ctr (l : Launch) (D : va_G) (cy : Nat → ClassId) (ad : Nat → Nat → Nat) (G d : Nat) (y : MethodName) (cc : ByteArray) (nL : Nat) (ret : Option FieldType) (avs : List Value) (M : wS) (Qf : Option Value → wS → Prop) : Prop :=
  Met l y (.code y cc nL ret :: lw_good) (Rm d) (va_Pc avs (wU D cy ad G M)) (wQ D cy ad G Qf) 0 0 (wA ad G)
def rI (Qf : Int32 → wS → Prop) : Option Value → wS → Prop := fun r M => ∃ x, r = some (.int x) ∧ Qf x M
def rL (Qf : Int64 → wS → Prop) : Option Value → wS → Prop := fun r M => ∃ x, r = some (.long x) ∧ Qf x M
def rV (Qf : wS → Prop) : Option Value → wS → Prop := fun r M => r = none ∧ Qf M
theorem Ctr.weaken {y : MethodName} {ret : Option FieldType} {avs : List Value} {Qf Qf' : Option Value → wS → Prop} (h : Ctr l D cy ad G d y cc nL ret avs M Qf) (hQ : ∀ r M', Qf r M' → Qf' r M') : Ctr l D cy ad G d y cc nL ret avs M Qf' := by
  intro p e ha hc hk s m args below hf happ hP hK
  obtain ⟨k, o, h1, h2, h3, ⟨⟨r, M', q1, q2, q3⟩, q4⟩, q5⟩ := h p e ha hc hk s m args below hf happ hP hK
  exact ⟨k, o, h1, h2, h3, ⟨⟨r, M', q1, hQ r M' q2, q3⟩, q4⟩, q5⟩
/-- a contract out of a walk -/
theorem Ctr.of {y : MethodName} {ret : Option FieldType} {avs : List Value} {lv0 : List (Nat × Value)} {Qf : Option Value → wS → Prop} (hy : plainName y.cls = true) (hlen : (lg_sl avs).length ≤ nL) (hlv : lv_args 0 avs = lv0)
    (body : ∀ (p : Program) (e : Env) (s : State) (m : MethodId) (args : Array Value) (below : List Frame) (meth : Method) (c : Code), CX p s m args c cc nL y.cls D cy ad G (wA ad G) (Rm d) d 0 0 → meth.sig.returnType = ret → meth.locks = false → meth.name = y.name →
      V p l e (Rm d) s m args below meth c nL D cy ad G (wA ad G) 0 0 (MQ below (wQ D cy ad G Qf) args s 0 0 (wA ad G)) 0 lv0 [] M) : Ctr l D cy ad G d y cc nL ret avs M Qf := by
  refine Met.ofW (cc := cc) (maxL := nL) (ret := ret) hy rfl ?_
  intro p e s m args below meth c s₁ B hml hv
  obtain ⟨rfl, hP, hE, hI⟩ := hv
  have hts := atoms_spec (ws := Cond.code y cc nL ret :: lw_good) B.pre
  have hl := lv_entry avs (n := nL) hlen
  rw [lg_entry_eq]
  rw [hlv] at hl
  exact body p e s m _ below meth c ⟨B.exec, B.bytes, hml, findClass_of_methodNamed B.named, fun w hw => hts w (List.mem_cons_of_mem _ hw), hE, hI, fun _ h => h, Nat.le_refl _, Nat.le_refl _, Nat.le_refl _, Nat.le_refl _⟩ B.returns B.notSynchronized (name_of_methodNamed B.named B.method).1 s.heap [] _ hP va_S.rf hl
section RET
variable {Qf : Option Value → wS → Prop}
theorem V_iret (C : CX p s m args c cc nL own D cy ad G (wA ad G) R d 0 0) (hr : meth.sig.returnType = some .int) (hk : meth.locks = false) {x : Int32} (hd : decode cc pc = .ok (.ireturn, 1)) (h : Qf (some (.int x)) M) : V p l e R s m args below meth c nL D cy ad G (wA ad G) 0 0 (MQ below (wQ D cy ad G Qf) args s 0 0 (wA ad G)) pc lv [.int x] M :=
  fun H locs ls h1 h2 h3 => W.iret C.1 C.2.1 hr (fun t ht _ => ⟨⟨_, M, rfl, h, by rw [ht]; exact h1⟩, h2.F ht⟩) h2.2.2 hd hk
theorem V_zret (C : CX p s m args c cc nL own D cy ad G (wA ad G) R d 0 0) {ty : FieldType} (hr : meth.sig.returnType = some ty) (hk : meth.locks = false) {x : Int32} (hn : narrow ty (.int x) = .int x) (hd : decode cc pc = .ok (.ireturn, 1)) (h : Qf (some (.int x)) M) : V p l e R s m args below meth c nL D cy ad G (wA ad G) 0 0 (MQ below (wQ D cy ad G Qf) args s 0 0 (wA ad G)) pc lv [.int x] M :=
  fun H locs ls h1 h2 h3 => W.zret C.1 C.2.1 hr hn (fun t ht _ => ⟨⟨_, M, rfl, h, by rw [ht]; exact h1⟩, h2.F ht⟩) h2.2.2 hd hk
theorem V_lret (C : CX p s m args c cc nL own D cy ad G (wA ad G) R d 0 0) (hr : meth.sig.returnType = some .long) (hk : meth.locks = false) {x : Int64} (hd : decode cc pc = .ok (.lreturn, 1)) (h : Qf (some (.long x)) M) : V p l e R s m args below meth c nL D cy ad G (wA ad G) 0 0 (MQ below (wQ D cy ad G Qf) args s 0 0 (wA ad G)) pc lv [.long x] M :=
  fun H locs ls h1 h2 h3 => W.lret C.1 C.2.1 hr (fun t ht _ => ⟨⟨_, M, rfl, h, by rw [ht]; exact h1⟩, h2.F ht⟩) h2.2.2 hd hk
theorem V_vret (C : CX p s m args c cc nL own D cy ad G (wA ad G) R d 0 0) (hr : meth.sig.returnType = none) (hk : meth.locks = false) (hd : decode cc pc = .ok (.return_, 1)) (h : Qf none M) : V p l e R s m args below meth c nL D cy ad G (wA ad G) 0 0 (MQ below (wQ D cy ad G Qf) args s 0 0 (wA ad G)) pc lv [] M :=
  fun H locs ls h1 h2 h3 => W.vret C.1 C.2.1 hr (fun t ht _ => ⟨⟨_, M, rfl, h, by rw [ht]; exact h1⟩, h2.F ht⟩) h2.2.2 hd hk
end RET
theorem wU_blind {avs : List Value} : FrameBlind (va_Pc avs (wU D cy ad G M)) := by
  intro a U g mk h
  obtain ⟨h0, h1, h2, h3⟩ := h
  exact ⟨h0, h1, wEn.moved (s := U) (U := U.calling g mk a) (State.WarmedH.refl U) (fun _ h => h) (fun _ _ _ => rfl) h2, h3⟩
theorem CX.goodIn {y : MethodName} {cy2 : ByteArray} {nL2 : Nat} {ret2 : Option FieldType} (hc : Cond.code y cy2 nL2 ret2 ∈ lw_good) : GoodIn lw_good (.code y cy2 nL2 ret2 :: lw_good) := by
  have h0 : ∀ w ∈ lw_good, w ∈ lw_good ∧ ((w.onTables && w.keeps) = true ∨ ∃ ty, w = .arrayClass ty) := fun w hw => ⟨hw, good_of_word (List.mem_filter.mp hw).2⟩
  intro w hw
  rcases List.mem_cons.mp hw with rfl | hw
  · exact h0 _ hc
  · exact h0 w hw
theorem wU_pre (C : CX p s m args c cc nL own D cy ad G A R d cells slots) {avs : List Value} {H : Heap} {locs : List Loc} (h1 : va_P D classes (wL cy ad G M) H) (h2 : va_S A s.heap H locs) : ∀ U : State, U.heap = H → s.WarmedH U.vm → va_Pc avs (wU D cy ad G M) avs.toArray U :=
  fun U hU hW => ⟨rfl, by rw [hU]; exact h1, wEn.moved hW C.2.2.2.2.2.2.2.1 (fun a g1 g2 => by rw [hU]; exact h2.2.1 a g1 g2) C.2.2.2.2.2.1, C.2.2.2.2.2.2.1⟩
/-- behind a call -/
theorem V_cont {Qf : Option Value → wS → Prop} {a : Array Value} {rest st0 : List Value} {H : Heap} {locs : List Loc} {ls : Array Slot} (C : CX p s m args c cc nL own D cy ad G A R d cells slots) (hr : va_Run p l e R s m args below meth c H locs cells slots 0 0 (F0 m pc ls st0) rest (wQ D cy ad G Qf a) (wA ad G)) (h2 : va_S A s.heap H locs) (h3 : lv_has ls nL lv)
    (k : ∀ r M', Qf r M' → V p l e R s m args below meth c nL D cy ad G A cells slots Q (pc + 3) lv (r.toList ++ rest) M') : W p l e R s m args below meth c H locs cells slots Q (F0 m pc ls st0) := by
  intro T hT X
  obtain ⟨v, st₀, t, T', L, h0, X', hL, e1, e2, ⟨⟨r, M', hv, hp, hb⟩, hz, hk⟩, st⟩ := hr T hT X
  cases hv
  rw [h0] at hz hk
  have hA := C.2.2.2.2.2.2.2.1
  obtain ⟨t2, a1, b1⟩ := k v M' hp T'.heap (locs ++ L) ls (by rw [e1]; exact hb) ⟨Nat.le_trans h2.1 (by rw [e1]; exact hz), fun q g1 g2 => by rw [e1, hk q (Nat.lt_of_lt_of_le g1 h2.1) (fun z => g2 (hA q z))]; exact h2.2.1 q g1 g2, fun q hq => by
      rcases List.mem_append.mp hq with h | h
      · exact h2.2.2 q h
      · exact hA _ (hL q h)⟩ h3 T' rfl X'
  exact ⟨t2, st t2 a1, b1⟩
section CALLS
variable {y : MethodName} {cc2 : ByteArray} {nL2 d2 index n : Nat} {ret2 : Option FieldType} {As : List Value} {Qf : Option Value → wS → Prop}
theorem CX.room (C : CX p s m args c cc nL own D cy ad G A R d cells slots) (hd2 : d2 + 1 ≤ d) (hn2 : nL2 ≤ 21) : (Rm d2).frames + 1 ≤ R.frames ∧ 8 + (nL2 + 11) + (Rm d2).locals ≤ R.locals := by
  have hR := C.2.2.2.2.2.2.2.2
  simp only [Rm]
  omega
theorem V_callV (C : CX p s m args c cc nL own D cy ad G A R d cells slots) {g i ci : Nat} {fs : List Value} {T : u_T} {N : Nat} (hM : Ctr l D cy ad G d2 y cc2 nL2 ret2 (.ref (ad g i) :: As) M Qf) (hd2 : d2 + 1 ≤ d) (hn2 : nL2 ≤ 21) (hco : Cond.code y cc2 nL2 ret2 ∈ lw_good) (hl : Cond.methodLink own index y ∈ lw_good) (hi : Cond.instanceMethod y ∈ lw_good) (hs : Cond.selects y.cls y y ∈ lw_good) (hini : Cond.initialized y.cls ∈ lw_good) (hdd : y.cls ≠ "java/lang/invoke/MethodHandle" ∧ y.cls ≠ "java/lang/invoke/VarHandle" ∧ (parseMethodDescriptor y.desc).map (fun d => d.parameters.length) = some n)
    (hg : wG G g i) (hF : wF cy ad M.2 g i (M.1 g i) = .inr (ci, fs)) (hc : classes[ci]? = some (y.cls, T, N)) (hn : As.length = n) (hw : (st.map fun v => v.category).sum ≤ 8) (hd : decode cc pc = .ok (.invokevirtual index, 3)) (k : ∀ r M', Qf r M' → V p l e R s m args below meth c nL D cy ad G A cells slots Q (pc + 3) lv (r.toList ++ st) M') : V p l e R s m args below meth c nL D cy ad G A cells slots Q pc lv (As.reverse ++ .ref (ad g i) :: st) M := by
  intro H locs ls h1 h2 h3
  obtain ⟨q, hq⟩ := wL_at hg
  have hts := C.2.2.2.2.1
  refine V_cont C (va_runV (C := y.cls) (nL := nL) (Ts := lw_good) (own := own) (index := index) (n := n) (bytes := cc2) (maxL := nL2) (ret := ret2) (As := As) (b := ad g i) (rest := st) ⟨C.1, C.2.1, C.2.2.1, C.2.2.2.1, hts⟩ hM ⟨callB_of n hts (CX.goodIn hco) rfl rfl rfl (hts _ hini) (hts _ hl) hdd (CX.room C hd2 hn2), hts _ hi, hts _ hs⟩ ⟨wU_blind, va_recv C.2.2.2.2.2.1.1 h1 hc ((wL_get hq).trans (by rw [hF])), wU_pre C h1 h2⟩ rfl hn h3.1 rfl (lv_room hw) hd ⟨C.2.2.2.2.2.2.2.2.2.2.1, C.2.2.2.2.2.2.2.2.2.2.2⟩) h2 h3 k
theorem V_callVN (C : CX p s m args c cc nL own D cy ad G A R d cells slots) {g i ci : Nat} {fs : List Value} {T : u_T} {N : Nat} {host : String} (hM : Ctr l D cy ad G d2 y cc2 nL2 ret2 (.ref (ad g i) :: As) M Qf) (hd2 : d2 + 1 ≤ d) (hn2 : nL2 ≤ 21) (hco : Cond.code y cc2 nL2 ret2 ∈ lw_good) (hl : Cond.methodLinkNest own index y host ∈ lw_tbl) (hi : Cond.instanceMethod y ∈ lw_good) (hs : Cond.selects y.cls y y ∈ lw_good) (hini : Cond.initialized y.cls ∈ lw_good) (hdd : y.cls ≠ "java/lang/invoke/MethodHandle" ∧ y.cls ≠ "java/lang/invoke/VarHandle" ∧ (parseMethodDescriptor y.desc).map (fun d => d.parameters.length) = some n)
    (hg : wG G g i) (hF : wF cy ad M.2 g i (M.1 g i) = .inr (ci, fs)) (hc : classes[ci]? = some (y.cls, T, N)) (hn : As.length = n) (hw : (st.map fun v => v.category).sum ≤ 8) (hd : decode cc pc = .ok (.invokevirtual index, 3)) (k : ∀ r M', Qf r M' → V p l e R s m args below meth c nL D cy ad G A cells slots Q (pc + 3) lv (r.toList ++ st) M') : V p l e R s m args below meth c nL D cy ad G A cells slots Q pc lv (As.reverse ++ .ref (ad g i) :: st) M := by
  intro H locs ls h1 h2 h3
  obtain ⟨q, hq⟩ := wL_at hg
  have hts := C.2.2.2.2.1
  refine V_cont C (va_runVN (C := y.cls) (nL := nL) (Ts := lw_good) (own := own) (host := host) (index := index) (n := n) (bytes := cc2) (maxL := nL2) (ret := ret2) (As := As) (b := ad g i) (rest := st) ⟨C.1, C.2.1, C.2.2.1, C.2.2.2.1, hts⟩ hM ⟨va_cnB n hts (CX.goodIn hco) rfl rfl rfl (C.2.2.2.2.2.1.2.1.2 _ _ _ _ hl) (hts _ hini) hdd (CX.room C hd2 hn2), hts _ hi, hts _ hs⟩ ⟨wU_blind, va_recv C.2.2.2.2.2.1.1 h1 hc ((wL_get hq).trans (by rw [hF])), wU_pre C h1 h2⟩ rfl hn h3.1 rfl (lv_room hw) hd ⟨C.2.2.2.2.2.2.2.2.2.2.1, C.2.2.2.2.2.2.2.2.2.2.2⟩) h2 h3 k
theorem V_callS (C : CX p s m args c cc nL own D cy ad G A R d cells slots) (hM : Ctr l D cy ad G d2 y cc2 nL2 ret2 As M Qf) (hd2 : d2 + 1 ≤ d) (hn2 : nL2 ≤ 21) (hco : Cond.code y cc2 nL2 ret2 ∈ lw_good) (hl : Cond.methodLink own index y ∈ lw_good) (hi : Cond.static y ∈ lw_good) (hini : Cond.initialized y.cls ∈ lw_good) (hdd : y.cls ≠ "java/lang/invoke/MethodHandle" ∧ y.cls ≠ "java/lang/invoke/VarHandle" ∧ (parseMethodDescriptor y.desc).map (fun d => d.parameters.length) = some n)
    (hn : As.length = n) (hw : (st.map fun v => v.category).sum ≤ 8) (hd : decode cc pc = .ok (.invokestatic index, 3)) (k : ∀ r M', Qf r M' → V p l e R s m args below meth c nL D cy ad G A cells slots Q (pc + 3) lv (r.toList ++ st) M') : V p l e R s m args below meth c nL D cy ad G A cells slots Q pc lv (As.reverse ++ st) M := by
  intro H locs ls h1 h2 h3
  have hts := C.2.2.2.2.1
  refine V_cont C (va_runS (nL := nL) (Ts := lw_good) (own := own) (index := index) (n := n) (bytes := cc2) (maxL := nL2) (ret := ret2) (As := As) (rest := st) ⟨C.1, C.2.1, C.2.2.1, C.2.2.2.1, hts⟩ hM ⟨callB_of n hts (CX.goodIn hco) rfl rfl rfl (hts _ hini) (hts _ hl) hdd (CX.room C hd2 hn2), hts _ hi⟩ ⟨wU_blind, wU_pre C h1 h2⟩ rfl hn h3.1 rfl (lv_room hw) hd ⟨C.2.2.2.2.2.2.2.2.2.2.1, C.2.2.2.2.2.2.2.2.2.2.2⟩) h2 h3 k
theorem V_callSN (C : CX p s m args c cc nL own D cy ad G A R d cells slots) {host : String} (hM : Ctr l D cy ad G d2 y cc2 nL2 ret2 As M Qf) (hd2 : d2 + 1 ≤ d) (hn2 : nL2 ≤ 21) (hco : Cond.code y cc2 nL2 ret2 ∈ lw_good) (hl : Cond.methodLinkNest own index y host ∈ lw_tbl) (hi : Cond.static y ∈ lw_good) (hini : Cond.initialized y.cls ∈ lw_good) (hdd : y.cls ≠ "java/lang/invoke/MethodHandle" ∧ y.cls ≠ "java/lang/invoke/VarHandle" ∧ (parseMethodDescriptor y.desc).map (fun d => d.parameters.length) = some n)
    (hn : As.length = n) (hw : (st.map fun v => v.category).sum ≤ 8) (hd : decode cc pc = .ok (.invokestatic index, 3)) (k : ∀ r M', Qf r M' → V p l e R s m args below meth c nL D cy ad G A cells slots Q (pc + 3) lv (r.toList ++ st) M') : V p l e R s m args below meth c nL D cy ad G A cells slots Q pc lv (As.reverse ++ st) M := by
  intro H locs ls h1 h2 h3
  have hts := C.2.2.2.2.1
  refine V_cont C (va_runSN (nL := nL) (Ts := lw_good) (own := own) (host := host) (index := index) (n := n) (bytes := cc2) (maxL := nL2) (ret := ret2) (As := As) (rest := st) ⟨C.1, C.2.1, C.2.2.1, C.2.2.2.1, hts⟩ hM ⟨va_cnB n hts (CX.goodIn hco) rfl rfl rfl (C.2.2.2.2.2.1.2.1.2 _ _ _ _ hl) (hts _ hini) hdd (CX.room C hd2 hn2), hts _ hi, trivial⟩ ⟨wU_blind, wU_pre C h1 h2⟩ rfl hn h3.1 rfl (lv_room hw) hd ⟨C.2.2.2.2.2.2.2.2.2.2.1, C.2.2.2.2.2.2.2.2.2.2.2⟩) h2 h3 k
/-- a call on a text constant -/
theorem V_callK (C : CX p s m args c cc nL own D cy ad G A R d cells slots) {i : Nat} (hM : Ctr l D cy ad G d2 y cc2 nL2 ret2 (.ref (ad 61 i) :: As) M Qf) (hd2 : d2 + 1 ≤ d) (hn2 : nL2 ≤ 21) (hco : Cond.code y cc2 nL2 ret2 ∈ lw_good) (hl : Cond.methodLink own index y ∈ lw_good) (hi : Cond.instanceMethod y ∈ lw_good) (hs : Cond.selects y.cls y y ∈ lw_good) (hini : Cond.initialized y.cls ∈ lw_good) (hdd : y.cls ≠ "java/lang/invoke/MethodHandle" ∧ y.cls ≠ "java/lang/invoke/VarHandle" ∧ (parseMethodDescriptor y.desc).map (fun d => d.parameters.length) = some n)
    (hy : y.cls = "java/lang/String") (hi13 : i < 13) (hn : As.length = n) (hw : (st.map fun v => v.category).sum ≤ 8) (hd : decode cc pc = .ok (.invokevirtual index, 3)) (k : ∀ r M', Qf r M' → V p l e R s m args below meth c nL D cy ad G A cells slots Q (pc + 3) lv (r.toList ++ st) M') : V p l e R s m args below meth c nL D cy ad G A cells slots Q pc lv (As.reverse ++ .ref (ad 61 i) :: st) M := by
  intro H locs ls h1 h2 h3
  have hts := C.2.2.2.2.1
  refine V_cont C (va_runV (C := y.cls) (nL := nL) (Ts := lw_good) (own := own) (index := index) (n := n) (bytes := cc2) (maxL := nL2) (ret := ret2) (As := As) (b := ad 61 i) (rest := st) ⟨C.1, C.2.1, C.2.2.1, C.2.2.2.1, hts⟩ hM ⟨callB_of n hts (CX.goodIn hco) rfl rfl rfl (hts _ hini) (hts _ hl) hdd (CX.room C hd2 hn2), hts _ hi, hts _ hs⟩ ⟨wU_blind, by rw [hy]; exact vk_recv C.2.2.2.2.2.1.2.2.2.1 hi13 h2, wU_pre C h1 h2⟩ rfl hn h3.1 rfl (lv_room hw) hd ⟨C.2.2.2.2.2.2.2.2.2.2.1, C.2.2.2.2.2.2.2.2.2.2.2⟩) h2 h3 k
end CALLS
theorem V_ldcS (C : CX p s m args c cc nL own D cy ad G A R d cells slots) {i index : Nat} {tx : String} (hq : wTx[i]? = some (own, index, tx)) (hd : decode cc pc = .ok (.ldc index, 2)) (k : V p l e R s m args below meth c nL D cy ad G A cells slots Q (pc + 2) lv (.ref (ad 61 i) :: st) M) : V p l e R s m args below meth c nL D cy ad G A cells slots Q pc lv st M :=
  fun H locs ls h1 h2 h3 => va_ldcS C.1 C.2.1 C.2.2.2.1 (C.2.2.2.2.2.1.2.2.2.2.1 i _ hq) hd (k H locs ls h1 h2 h3)
theorem V_kcoder (C : CX p s m args c cc nL own D cy ad G A R d cells slots) {i index : Nat} (hi : i < 13) (hl : Cond.fieldLink own index "java/lang/String" "coder" "B" ∈ lw_good) (hd : decode cc pc = .ok (.getfield index, 3)) (k : V p l e R s m args below meth c nL D cy ad G A cells slots Q (pc + 3) lv (.int 0 :: st) M) : V p l e R s m args below meth c nL D cy ad G A cells slots Q pc lv (.ref (ad 61 i) :: st) M :=
  fun H locs ls h1 h2 h3 => vk_getf C.1 C.2.1 (C.2.2.2.2.2.1.2.2.2.1.1 i hi).2.1 h2 C.2.2.2.1 (C.2.2.2.2.1 _ hl) (fun _ h => h) hd (k H locs ls h1 h2 h3)
theorem V_kvalue (C : CX p s m args c cc nL own D cy ad G A R d cells slots) {i index : Nat} (hi : i < 13) (hl : Cond.fieldLink own index "java/lang/String" "value" "[B" ∈ lw_good) (hd : decode cc pc = .ok (.getfield index, 3)) (k : V p l e R s m args below meth c nL D cy ad G A cells slots Q (pc + 3) lv (.ref (ad 62 i) :: st) M) : V p l e R s m args below meth c nL D cy ad G A cells slots Q pc lv (.ref (ad 61 i) :: st) M :=
  fun H locs ls h1 h2 h3 => vk_getf C.1 C.2.1 (C.2.2.2.2.2.1.2.2.2.1.1 i hi).2.2.1 h2 C.2.2.2.1 (C.2.2.2.2.1 _ hl) (fun _ h => h) hd (k H locs ls h1 h2 h3)
theorem V_compact (C : CX p s m args c cc nL own D cy ad G A R d cells slots) {index : Nat} (hl : Cond.fieldLink own index "java/lang/String" "COMPACT_STRINGS" "Z" ∈ lw_good) (hd : decode cc pc = .ok (.getstatic index, 3)) (k : V p l e R s m args below meth c nL D cy ad G A cells slots Q (pc + 3) lv (.int 1 :: st) M) : V p l e R s m args below meth c nL D cy ad G A cells slots Q pc lv st M :=
  fun H locs ls h1 h2 h3 => va_gets C.1 C.2.1 C.2.2.2.2.2.1.2.2.2.2.2.1 h2 C.2.2.2.1 (C.2.2.2.2.1 _ hl) (fun _ h => h) hd (k H locs ls h1 h2 h3)
theorem V_under (C : CX p s m args c cc nL own D cy ad G A R d cells slots) {index : Nat} {host : String} (hl : Cond.fieldLinkNest own index "CostsAge" "UNDER" "[I" host ∈ lw_tbl) (hd : decode cc pc = .ok (.getstatic index, 3)) (k : V p l e R s m args below meth c nL D cy ad G A cells slots Q (pc + 3) lv (.ref (ad 60 0) :: st) M) : V p l e R s m args below meth c nL D cy ad G A cells slots Q pc lv st M :=
  fun H locs ls h1 h2 h3 => va_getsN C.1 C.2.1 C.2.2.2.2.2.1.2.2.1.1 h2 C.2.2.2.1 (va_Nw.use rfl (C.2.2.2.2.2.1.2.1.1 _ _ _ _ _ _ hl)) (fun _ h => h) hd (k H locs ls h1 h2 h3)
theorem V_uald (C : CX p s m args c cc nL own D cy ad G A R d cells slots) {x : Int32} (j : Nat) (hx : x = nI j) (hj : j < 6) (hd : decode cc pc = .ok (.iaload, 1)) (k : V p l e R s m args below meth c nL D cy ad G A cells slots Q (pc + 1) lv (.int (wUnder j) :: st) M) : V p l e R s m args below meth c nL D cy ad G A cells slots Q pc lv (.int x :: .ref (ad 60 0) :: st) M := by
  intro H locs ls h1 h2 h3
  obtain ⟨cell, q1, q2, q3, q4, q5, q6, q7⟩ := C.2.2.2.2.2.1.2.2.1.2
  subst hx
  have hc : (nI j).toNatClampNeg = j := nI_clamp (by omega)
  refine W.iald (v := .int (wUnder j)) C.1 C.2.1 (by rw [h2.2.1 _ (Array.getElem?_eq_some_iff.mp q1).1 q7]; exact q1) q2 q3 ?_ (by rw [hc]; exact q6 j hj) rfl rfl hd (k H locs ls h1 h2 h3)
  rw [hc]
  rintro (h | h)
  · exact nI_pos (by omega) h
  · omega
theorem V_kalen (C : CX p s m args c cc nL own D cy ad G A R d cells slots) {i : Nat} (hi : i < 13) (hd : decode cc pc = .ok (.arraylength, 1)) (k : V p l e R s m args below meth c nL D cy ad G A cells slots Q (pc + 1) lv (.int (nI (wTlen.getD i 0)) :: st) M) : V p l e R s m args below meth c nL D cy ad G A cells slots Q pc lv (.ref (ad 62 i) :: st) M := by
  intro H locs ls h1 h2 h3
  obtain ⟨cell, q1, q2, q3, q4, q5, q6, q7⟩ := (C.2.2.2.2.2.1.2.2.2.1.1 i hi).2.2.2
  exact W.alen (n := nI (wTlen.getD i 0)) C.1 C.2.1 (by rw [h2.2.1 _ (Array.getElem?_eq_some_iff.mp q1).1 q7]; exact q1) q2 q5 rfl rfl hd (k H locs ls h1 h2 h3)
theorem V_kbald (C : CX p s m args c cc nL own D cy ad G A R d cells slots) {i : Nat} {x : Int32} (j : Nat) (hi : i < 13) (hx : x = nI j) (hj : j < wTlen.getD i 0) (hj2 : j < 2 ^ 31) (hd : decode cc pc = .ok (.baload, 1)) (k : V p l e R s m args below meth c nL D cy ad G A cells slots Q (pc + 1) lv (.int ((wTby.getD i []).getD j 0) :: st) M) : V p l e R s m args below meth c nL D cy ad G A cells slots Q pc lv (.int x :: .ref (ad 62 i) :: st) M := by
  intro H locs ls h1 h2 h3
  obtain ⟨cell, q1, q2, q3, q4, q5, q6, q7⟩ := (C.2.2.2.2.2.1.2.2.2.1.1 i hi).2.2.2
  subst hx
  have hc : (nI j).toNatClampNeg = j := nI_clamp hj2
  refine W.bald (v := .int ((wTby.getD i []).getD j 0)) C.1 C.2.1 (by rw [h2.2.1 _ (Array.getElem?_eq_some_iff.mp q1).1 q7]; exact q1) q2 q3 ?_ (by rw [hc]; exact q6 j hj) rfl rfl hd (k H locs ls h1 h2 h3)
  rw [hc]
  rintro (h | h)
  · exact nI_pos hj2 h
  · omega
end VR
end
section
section LK
variable {p : Program} {l : Launch} {e : Env} {R : Room} {s : State} {m : MethodId} {args : Array Value} {below : List Frame} {meth : Method} {c : Code} {nL : Nat} {D : va_G} {cy : Nat → ClassId} {ad : Nat → Nat → Nat} {G : Nat} {A : Nat → Prop} {cells slots d d2 : Nat} {Q : State → Prop} {cc : ByteArray} {pc : Nat} {lv : List (Nat × Value)} {st : List Value} {M : wS}
theorem qk_X9_326 : Cond.constant "CostsAge" 326 1103515245 ∈ lw_good := tg (tb 692 (by decide +kernel)) rfl
theorem qk_X1_21 : Cond.constant "CostsAge$Fees" 21 1000000 ∈ lw_good := tg (tb 663 (by decide +kernel)) rfl
theorem qk_X10_329 : Cond.constant "CostsAgeModel" 329 1103515245 ∈ lw_good := tg (tb 1196 (by decide +kernel)) rfl
theorem qk_J6_265 : Cond.constant "java/lang/Integer" 265 1431655765 ∈ lw_good := tg (tb 597 (by decide +kernel)) rfl
theorem qk_J6_266 : Cond.constant "java/lang/Integer" 266 858993459 ∈ lw_good := tg (tb 598 (by decide +kernel)) rfl
theorem qk_J6_267 : Cond.constant "java/lang/Integer" 267 252645135 ∈ lw_good := tg (tb 599 (by decide +kernel)) rfl
theorem qk_X9_282 : Cond.constantLong "CostsAge" 282 (-4611686018427387904) ∈ lw_good := tg (tb 638 (by decide +kernel)) rfl
theorem qk_X10_116 : Cond.constantLong "CostsAgeModel" 116 5 ∈ lw_good := tg (tb 961 (by decide +kernel)) rfl
theorem qk_X10_118 : Cond.constantLong "CostsAgeModel" 118 5199 ∈ lw_good := tg (tb 965 (by decide +kernel)) rfl
theorem qk_X10_120 : Cond.constantLong "CostsAgeModel" 120 999 ∈ lw_good := tg (tb 966 (by decide +kernel)) rfl
theorem qk_X10_122 : Cond.constantLong "CostsAgeModel" 122 9 ∈ lw_good := tg (tb 971 (by decide +kernel)) rfl
theorem qk_X10_124 : Cond.constantLong "CostsAgeModel" 124 4 ∈ lw_good := tg (tb 976 (by decide +kernel)) rfl
theorem qk_X10_126 : Cond.constantLong "CostsAgeModel" 126 63 ∈ lw_good := tg (tb 977 (by decide +kernel)) rfl
theorem qk_X10_135 : Cond.constantLong "CostsAgeModel" 135 51 ∈ lw_good := tg (tb 986 (by decide +kernel)) rfl
theorem qk_X10_137 : Cond.constantLong "CostsAgeModel" 137 99 ∈ lw_good := tg (tb 987 (by decide +kernel)) rfl
theorem qk_X10_139 : Cond.constantLong "CostsAgeModel" 139 10 ∈ lw_good := tg (tb 992 (by decide +kernel)) rfl
theorem qk_X10_152 : Cond.constantLong "CostsAgeModel" 152 255 ∈ lw_good := tg (tb 1005 (by decide +kernel)) rfl
theorem qk_X10_175 : Cond.constantLong "CostsAgeModel" 175 97 ∈ lw_good := tg (tb 1022 (by decide +kernel)) rfl
theorem qk_X10_177 : Cond.constantLong "CostsAgeModel" 177 122 ∈ lw_good := tg (tb 1023 (by decide +kernel)) rfl
theorem qk_X10_179 : Cond.constantLong "CostsAgeModel" 179 48 ∈ lw_good := tg (tb 1024 (by decide +kernel)) rfl
theorem qk_X10_181 : Cond.constantLong "CostsAgeModel" 181 57 ∈ lw_good := tg (tb 1025 (by decide +kernel)) rfl
theorem qk_X10_249 : Cond.constantLong "CostsAgeModel" 249 43 ∈ lw_good := tg (tb 1078 (by decide +kernel)) rfl
theorem qk_X10_257 : Cond.constantLong "CostsAgeModel" 257 60 ∈ lw_good := tg (tb 1079 (by decide +kernel)) rfl
theorem qk_X10_273 : Cond.constantLong "CostsAgeModel" 273 103 ∈ lw_good := tg (tb 1088 (by decide +kernel)) rfl
theorem qk_X10_321 : Cond.constantLong "CostsAgeModel" 321 (-4611686018427387904) ∈ lw_good := tg (tb 1167 (by decide +kernel)) rfl
theorem qk_X10_351 : Cond.constantLong "CostsAgeModel" 351 3 ∈ lw_good := tg (tb 1187 (by decide +kernel)) rfl
theorem qk_X10_353 : Cond.constantLong "CostsAgeModel" 353 (-1) ∈ lw_good := tg (tb 1217 (by decide +kernel)) rfl
theorem qk_X10_355 : Cond.constantLong "CostsAgeModel" 355 2 ∈ lw_good := tg (tb 1218 (by decide +kernel)) rfl
theorem qk_X10_357 : Cond.constantLong "CostsAgeModel" 357 7 ∈ lw_good := tg (tb 1231 (by decide +kernel)) rfl
theorem qf_X9_11 : Cond.fieldLink "CostsAge" 11 "CostsAge" "buyers" "[LCostsAge$Buyer;" ∈ lw_good := tg (tb 391 (by decide +kernel)) rfl
theorem get_X9_11 (C : CX p s m args c cc nL "CostsAge" D cy ad G A R d cells slots) {i : Nat} (hg : wG G 0 i) (hd : decode cc pc = .ok (.getfield 11, 3)) (kk : V p l e R s m args below meth c nL D cy ad G A cells slots Q (pc + 3) lv (.ref (ad 1 0) :: st) M) : V p l e R s m args below meth c nL D cy ad G A cells slots Q pc lv (.ref (ad 0 i) :: st) M :=
  V_get (k := 0) C hg wF_0 rfl (by decide) inX9 rfl qf_X9_11 rfl hd kk
theorem qf_X9_17 : Cond.fieldLink "CostsAge" 17 "CostsAge" "wares" "[LCostsAge$Ware;" ∈ lw_good := tg (tb 392 (by decide +kernel)) rfl
theorem get_X9_17 (C : CX p s m args c cc nL "CostsAge" D cy ad G A R d cells slots) {i : Nat} (hg : wG G 0 i) (hd : decode cc pc = .ok (.getfield 17, 3)) (kk : V p l e R s m args below meth c nL D cy ad G A cells slots Q (pc + 3) lv (.ref (ad 2 0) :: st) M) : V p l e R s m args below meth c nL D cy ad G A cells slots Q pc lv (.ref (ad 0 i) :: st) M :=
  V_get (k := 1) C hg wF_0 rfl (by decide) inX9 rfl qf_X9_17 rfl hd kk
theorem qf_X9_23 : Cond.fieldLink "CostsAge" 23 "CostsAge" "texts" "[LCostsAge$Text;" ∈ lw_good := tg (tb 393 (by decide +kernel)) rfl
theorem get_X9_23 (C : CX p s m args c cc nL "CostsAge" D cy ad G A R d cells slots) {i : Nat} (hg : wG G 0 i) (hd : decode cc pc = .ok (.getfield 23, 3)) (kk : V p l e R s m args below meth c nL D cy ad G A cells slots Q (pc + 3) lv (.ref (ad 3 0) :: st) M) : V p l e R s m args below meth c nL D cy ad G A cells slots Q pc lv (.ref (ad 0 i) :: st) M :=
  V_get (k := 2) C hg wF_0 rfl (by decide) inX9 rfl qf_X9_23 rfl hd kk
theorem qf_X9_29 : Cond.fieldLink "CostsAge" 29 "CostsAge" "sheets" "[LCostsAge$Sheet;" ∈ lw_good := tg (tb 394 (by decide +kernel)) rfl
theorem get_X9_29 (C : CX p s m args c cc nL "CostsAge" D cy ad G A R d cells slots) {i : Nat} (hg : wG G 0 i) (hd : decode cc pc = .ok (.getfield 29, 3)) (kk : V p l e R s m args below meth c nL D cy ad G A cells slots Q (pc + 3) lv (.ref (ad 4 0) :: st) M) : V p l e R s m args below meth c nL D cy ad G A cells slots Q pc lv (.ref (ad 0 i) :: st) M :=
  V_get (k := 3) C hg wF_0 rfl (by decide) inX9 rfl qf_X9_29 rfl hd kk
theorem qf_X9_36 : Cond.fieldLink "CostsAge" 36 "CostsAge" "reader" "LCostsAge$Reader;" ∈ lw_good := tg (tb 395 (by decide +kernel)) rfl
theorem get_X9_36 (C : CX p s m args c cc nL "CostsAge" D cy ad G A R d cells slots) {i : Nat} (hg : wG G 0 i) (hd : decode cc pc = .ok (.getfield 36, 3)) (kk : V p l e R s m args below meth c nL D cy ad G A cells slots Q (pc + 3) lv (.ref (ad 11 0) :: st) M) : V p l e R s m args below meth c nL D cy ad G A cells slots Q pc lv (.ref (ad 0 i) :: st) M :=
  V_get (k := 4) C hg wF_0 rfl (by decide) inX9 rfl qf_X9_36 rfl hd kk
theorem qf_X9_43 : Cond.fieldLink "CostsAge" 43 "CostsAge" "scene" "LCostsAge$Scene;" ∈ lw_good := tg (tb 396 (by decide +kernel)) rfl
theorem get_X9_43 (C : CX p s m args c cc nL "CostsAge" D cy ad G A R d cells slots) {i : Nat} (hg : wG G 0 i) (hd : decode cc pc = .ok (.getfield 43, 3)) (kk : V p l e R s m args below meth c nL D cy ad G A cells slots Q (pc + 3) lv (.ref (ad 13 0) :: st) M) : V p l e R s m args below meth c nL D cy ad G A cells slots Q pc lv (.ref (ad 0 i) :: st) M :=
  V_get (k := 5) C hg wF_0 rfl (by decide) inX9 rfl qf_X9_43 rfl hd kk
theorem qf_X9_50 : Cond.fieldLink "CostsAge" 50 "CostsAge" "plan" "LCostsAge$Plan;" ∈ lw_good := tg (tb 397 (by decide +kernel)) rfl
theorem get_X9_50 (C : CX p s m args c cc nL "CostsAge" D cy ad G A R d cells slots) {i : Nat} (hg : wG G 0 i) (hd : decode cc pc = .ok (.getfield 50, 3)) (kk : V p l e R s m args below meth c nL D cy ad G A cells slots Q (pc + 3) lv (.ref (ad 16 0) :: st) M) : V p l e R s m args below meth c nL D cy ad G A cells slots Q pc lv (.ref (ad 0 i) :: st) M :=
  V_get (k := 6) C hg wF_0 rfl (by decide) inX9 rfl qf_X9_50 rfl hd kk
theorem qf_X9_57 : Cond.fieldLink "CostsAge" 57 "CostsAge" "fees" "LCostsAge$Fees;" ∈ lw_good := tg (tb 398 (by decide +kernel)) rfl
theorem get_X9_57 (C : CX p s m args c cc nL "CostsAge" D cy ad G A R d cells slots) {i : Nat} (hg : wG G 0 i) (hd : decode cc pc = .ok (.getfield 57, 3)) (kk : V p l e R s m args below meth c nL D cy ad G A cells slots Q (pc + 3) lv (.ref (ad 22 0) :: st) M) : V p l e R s m args below meth c nL D cy ad G A cells slots Q pc lv (.ref (ad 0 i) :: st) M :=
  V_get (k := 7) C hg wF_0 rfl (by decide) inX9 rfl qf_X9_57 rfl hd kk
theorem qf_X9_64 : Cond.fieldLink "CostsAge" 64 "CostsAge" "now" "LCostsAge$Standing;" ∈ lw_good := tg (tb 399 (by decide +kernel)) rfl
theorem get_X9_64 (C : CX p s m args c cc nL "CostsAge" D cy ad G A R d cells slots) {i : Nat} (hg : wG G 0 i) (hd : decode cc pc = .ok (.getfield 64, 3)) (kk : V p l e R s m args below meth c nL D cy ad G A cells slots Q (pc + 3) lv (.ref (ad 26 0) :: st) M) : V p l e R s m args below meth c nL D cy ad G A cells slots Q pc lv (.ref (ad 0 i) :: st) M :=
  V_get (k := 8) C hg wF_0 rfl (by decide) inX9 rfl qf_X9_64 rfl hd kk
theorem qf_X9_68 : Cond.fieldLink "CostsAge" 68 "CostsAge" "kept" "LCostsAge$Standing;" ∈ lw_good := tg (tb 400 (by decide +kernel)) rfl
theorem get_X9_68 (C : CX p s m args c cc nL "CostsAge" D cy ad G A R d cells slots) {i : Nat} (hg : wG G 0 i) (hd : decode cc pc = .ok (.getfield 68, 3)) (kk : V p l e R s m args below meth c nL D cy ad G A cells slots Q (pc + 3) lv (.ref (ad 26 1) :: st) M) : V p l e R s m args below meth c nL D cy ad G A cells slots Q pc lv (.ref (ad 0 i) :: st) M :=
  V_get (k := 9) C hg wF_0 rfl (by decide) inX9 rfl qf_X9_68 rfl hd kk
theorem qf_X9_75 : Cond.fieldLinkNest "CostsAge" 75 "CostsAge$Standing" "carry" "I" "CostsAge" ∈ lw_tbl := tb 151 (by decide +kernel)
theorem get_X9_75 (C : CX p s m args c cc nL "CostsAge" D cy ad G A R d cells slots) {i : Nat} (hg : wG G 26 i) (hd : decode cc pc = .ok (.getfield 75, 3)) (kk : V p l e R s m args below meth c nL D cy ad G A cells slots Q (pc + 3) lv (.int (M.1 26 i 7) :: st) M) : V p l e R s m args below meth c nL D cy ad G A cells slots Q pc lv (.ref (ad 26 i) :: st) M :=
  V_getN (k := 7) C hg wF_26 rfl (by decide) inX6 rfl qf_X9_75 rfl hd kk
theorem qf_X9_99 : Cond.fieldLink "CostsAge" 99 "CostsAge" "textCount" "I" ∈ lw_good := tg (tb 404 (by decide +kernel)) rfl
theorem get_X9_99 (C : CX p s m args c cc nL "CostsAge" D cy ad G A R d cells slots) {i : Nat} (hg : wG G 0 i) (hd : decode cc pc = .ok (.getfield 99, 3)) (kk : V p l e R s m args below meth c nL D cy ad G A cells slots Q (pc + 3) lv (.int (M.1 0 i 13) :: st) M) : V p l e R s m args below meth c nL D cy ad G A cells slots Q pc lv (.ref (ad 0 i) :: st) M :=
  V_get (k := 13) C hg wF_0 rfl (by decide) inX9 rfl qf_X9_99 rfl hd kk
theorem qf_X9_106 : Cond.fieldLink "CostsAge" 106 "CostsAge" "buyerCount" "I" ∈ lw_good := tg (tb 402 (by decide +kernel)) rfl
theorem get_X9_106 (C : CX p s m args c cc nL "CostsAge" D cy ad G A R d cells slots) {i : Nat} (hg : wG G 0 i) (hd : decode cc pc = .ok (.getfield 106, 3)) (kk : V p l e R s m args below meth c nL D cy ad G A cells slots Q (pc + 3) lv (.int (M.1 0 i 11) :: st) M) : V p l e R s m args below meth c nL D cy ad G A cells slots Q pc lv (.ref (ad 0 i) :: st) M :=
  V_get (k := 11) C hg wF_0 rfl (by decide) inX9 rfl qf_X9_106 rfl hd kk
theorem qf_X9_109 : Cond.fieldLinkNest "CostsAge" 109 "CostsAge$Buyer" "kind" "I" "CostsAge" ∈ lw_tbl := tb 185 (by decide +kernel)
theorem get_X9_109 (C : CX p s m args c cc nL "CostsAge" D cy ad G A R d cells slots) {i : Nat} (hg : wG G 5 i) (hd : decode cc pc = .ok (.getfield 109, 3)) (kk : V p l e R s m args below meth c nL D cy ad G A cells slots Q (pc + 3) lv (.int (M.1 5 i 0) :: st) M) : V p l e R s m args below meth c nL D cy ad G A cells slots Q pc lv (.ref (ad 5 i) :: st) M :=
  V_getN (k := 0) C hg wF_5 rfl (by decide) inX0 rfl qf_X9_109 rfl hd kk
theorem qf_X9_112 : Cond.fieldLinkNest "CostsAge" 112 "CostsAge$Buyer" "born" "I" "CostsAge" ∈ lw_tbl := tb 188 (by decide +kernel)
theorem get_X9_112 (C : CX p s m args c cc nL "CostsAge" D cy ad G A R d cells slots) {i : Nat} (hg : wG G 5 i) (hd : decode cc pc = .ok (.getfield 112, 3)) (kk : V p l e R s m args below meth c nL D cy ad G A cells slots Q (pc + 3) lv (.int (M.1 5 i 1) :: st) M) : V p l e R s m args below meth c nL D cy ad G A cells slots Q pc lv (.ref (ad 5 i) :: st) M :=
  V_getN (k := 1) C hg wF_5 rfl (by decide) inX0 rfl qf_X9_112 rfl hd kk
theorem qf_X9_115 : Cond.fieldLinkNest "CostsAge" 115 "CostsAge$Buyer" "number" "I" "CostsAge" ∈ lw_tbl := tb 189 (by decide +kernel)
theorem get_X9_115 (C : CX p s m args c cc nL "CostsAge" D cy ad G A R d cells slots) {i : Nat} (hg : wG G 5 i) (hd : decode cc pc = .ok (.getfield 115, 3)) (kk : V p l e R s m args below meth c nL D cy ad G A cells slots Q (pc + 3) lv (.int (M.1 5 i 2) :: st) M) : V p l e R s m args below meth c nL D cy ad G A cells slots Q pc lv (.ref (ad 5 i) :: st) M :=
  V_getN (k := 2) C hg wF_5 rfl (by decide) inX0 rfl qf_X9_115 rfl hd kk
theorem qf_X9_118 : Cond.fieldLinkNest "CostsAge" 118 "CostsAge$Standing" "years" "[I" "CostsAge" ∈ lw_tbl := tb 138 (by decide +kernel)
theorem get_X9_118 (C : CX p s m args c cc nL "CostsAge" D cy ad G A R d cells slots) {i : Nat} (hg : wG G 26 i) (hd : decode cc pc = .ok (.getfield 118, 3)) (kk : V p l e R s m args below meth c nL D cy ad G A cells slots Q (pc + 3) lv (.ref (ad 27 i) :: st) M) : V p l e R s m args below meth c nL D cy ad G A cells slots Q pc lv (.ref (ad 26 i) :: st) M :=
  V_getN (k := 0) C hg wF_26 rfl (by decide) inX6 rfl qf_X9_118 rfl hd kk
theorem qf_X9_122 : Cond.fieldLinkNest "CostsAge" 122 "CostsAge$Standing" "fees" "[I" "CostsAge" ∈ lw_tbl := tb 140 (by decide +kernel)
theorem get_X9_122 (C : CX p s m args c cc nL "CostsAge" D cy ad G A R d cells slots) {i : Nat} (hg : wG G 26 i) (hd : decode cc pc = .ok (.getfield 122, 3)) (kk : V p l e R s m args below meth c nL D cy ad G A cells slots Q (pc + 3) lv (.ref (ad 28 i) :: st) M) : V p l e R s m args below meth c nL D cy ad G A cells slots Q pc lv (.ref (ad 26 i) :: st) M :=
  V_getN (k := 1) C hg wF_26 rfl (by decide) inX6 rfl qf_X9_122 rfl hd kk
theorem qf_X9_124 : Cond.fieldLink "CostsAge" 124 "CostsAge" "wareCount" "I" ∈ lw_good := tg (tb 403 (by decide +kernel)) rfl
theorem get_X9_124 (C : CX p s m args c cc nL "CostsAge" D cy ad G A R d cells slots) {i : Nat} (hg : wG G 0 i) (hd : decode cc pc = .ok (.getfield 124, 3)) (kk : V p l e R s m args below meth c nL D cy ad G A cells slots Q (pc + 3) lv (.int (M.1 0 i 12) :: st) M) : V p l e R s m args below meth c nL D cy ad G A cells slots Q pc lv (.ref (ad 0 i) :: st) M :=
  V_get (k := 12) C hg wF_0 rfl (by decide) inX9 rfl qf_X9_124 rfl hd kk
theorem qf_X9_127 : Cond.fieldLinkNest "CostsAge" 127 "CostsAge$Ware" "size" "I" "CostsAge" ∈ lw_tbl := tb 203 (by decide +kernel)
theorem get_X9_127 (C : CX p s m args c cc nL "CostsAge" D cy ad G A R d cells slots) {i : Nat} (hg : wG G 6 i) (hd : decode cc pc = .ok (.getfield 127, 3)) (kk : V p l e R s m args below meth c nL D cy ad G A cells slots Q (pc + 3) lv (.int (M.1 6 i 0) :: st) M) : V p l e R s m args below meth c nL D cy ad G A cells slots Q pc lv (.ref (ad 6 i) :: st) M :=
  V_getN (k := 0) C hg wF_6 rfl (by decide) inX8 rfl qf_X9_127 rfl hd kk
theorem qf_X9_130 : Cond.fieldLinkNest "CostsAge" 130 "CostsAge$Ware" "value" "I" "CostsAge" ∈ lw_tbl := tb 204 (by decide +kernel)
theorem get_X9_130 (C : CX p s m args c cc nL "CostsAge" D cy ad G A R d cells slots) {i : Nat} (hg : wG G 6 i) (hd : decode cc pc = .ok (.getfield 130, 3)) (kk : V p l e R s m args below meth c nL D cy ad G A cells slots Q (pc + 3) lv (.int (M.1 6 i 1) :: st) M) : V p l e R s m args below meth c nL D cy ad G A cells slots Q pc lv (.ref (ad 6 i) :: st) M :=
  V_getN (k := 1) C hg wF_6 rfl (by decide) inX8 rfl qf_X9_130 rfl hd kk
theorem qf_X9_133 : Cond.fieldLinkNest "CostsAge" 133 "CostsAge$Standing" "owners" "[I" "CostsAge" ∈ lw_tbl := tb 142 (by decide +kernel)
theorem get_X9_133 (C : CX p s m args c cc nL "CostsAge" D cy ad G A R d cells slots) {i : Nat} (hg : wG G 26 i) (hd : decode cc pc = .ok (.getfield 133, 3)) (kk : V p l e R s m args below meth c nL D cy ad G A cells slots Q (pc + 3) lv (.ref (ad 29 i) :: st) M) : V p l e R s m args below meth c nL D cy ad G A cells slots Q pc lv (.ref (ad 26 i) :: st) M :=
  V_getN (k := 2) C hg wF_26 rfl (by decide) inX6 rfl qf_X9_133 rfl hd kk
theorem qf_X9_160 : Cond.fieldLinkNest "CostsAge" 160 "CostsAge$Standing" "week" "I" "CostsAge" ∈ lw_tbl := tb 146 (by decide +kernel)
theorem get_X9_160 (C : CX p s m args c cc nL "CostsAge" D cy ad G A R d cells slots) {i : Nat} (hg : wG G 26 i) (hd : decode cc pc = .ok (.getfield 160, 3)) (kk : V p l e R s m args below meth c nL D cy ad G A cells slots Q (pc + 3) lv (.int (M.1 26 i 4) :: st) M) : V p l e R s m args below meth c nL D cy ad G A cells slots Q pc lv (.ref (ad 26 i) :: st) M :=
  V_getN (k := 4) C hg wF_26 rfl (by decide) inX6 rfl qf_X9_160 rfl hd kk
theorem qf_X9_169 : Cond.fieldLinkNest "CostsAge" 169 "CostsAge$Standing" "bought" "I" "CostsAge" ∈ lw_tbl := tb 144 (by decide +kernel)
theorem get_X9_169 (C : CX p s m args c cc nL "CostsAge" D cy ad G A R d cells slots) {i : Nat} (hg : wG G 26 i) (hd : decode cc pc = .ok (.getfield 169, 3)) (kk : V p l e R s m args below meth c nL D cy ad G A cells slots Q (pc + 3) lv (.int (M.1 26 i 3) :: st) M) : V p l e R s m args below meth c nL D cy ad G A cells slots Q pc lv (.ref (ad 26 i) :: st) M :=
  V_getN (k := 3) C hg wF_26 rfl (by decide) inX6 rfl qf_X9_169 rfl hd kk
theorem qf_X9_172 : Cond.fieldLinkNest "CostsAge" 172 "CostsAge$Reader" "size" "I" "CostsAge" ∈ lw_tbl := tb 43 (by decide +kernel)
theorem get_X9_172 (C : CX p s m args c cc nL "CostsAge" D cy ad G A R d cells slots) {i : Nat} (hg : wG G 11 i) (hd : decode cc pc = .ok (.getfield 172, 3)) (kk : V p l e R s m args below meth c nL D cy ad G A cells slots Q (pc + 3) lv (.int (M.1 11 i 1) :: st) M) : V p l e R s m args below meth c nL D cy ad G A cells slots Q pc lv (.ref (ad 11 i) :: st) M :=
  V_getN (k := 1) C hg wF_11 rfl (by decide) inX3 rfl qf_X9_172 rfl hd kk
theorem qf_X9_173 : Cond.fieldLinkNest "CostsAge" 173 "CostsAge$Standing" "rule" "I" "CostsAge" ∈ lw_tbl := tb 154 (by decide +kernel)
theorem get_X9_173 (C : CX p s m args c cc nL "CostsAge" D cy ad G A R d cells slots) {i : Nat} (hg : wG G 26 i) (hd : decode cc pc = .ok (.getfield 173, 3)) (kk : V p l e R s m args below meth c nL D cy ad G A cells slots Q (pc + 3) lv (.int (M.1 26 i 8) :: st) M) : V p l e R s m args below meth c nL D cy ad G A cells slots Q pc lv (.ref (ad 26 i) :: st) M :=
  V_getN (k := 8) C hg wF_26 rfl (by decide) inX6 rfl qf_X9_173 rfl hd kk
theorem qf_X9_198 : Cond.fieldLinkNest "CostsAge" 198 "CostsAge$Standing" "till" "I" "CostsAge" ∈ lw_tbl := tb 150 (by decide +kernel)
theorem get_X9_198 (C : CX p s m args c cc nL "CostsAge" D cy ad G A R d cells slots) {i : Nat} (hg : wG G 26 i) (hd : decode cc pc = .ok (.getfield 198, 3)) (kk : V p l e R s m args below meth c nL D cy ad G A cells slots Q (pc + 3) lv (.int (M.1 26 i 6) :: st) M) : V p l e R s m args below meth c nL D cy ad G A cells slots Q pc lv (.ref (ad 26 i) :: st) M :=
  V_getN (k := 6) C hg wF_26 rfl (by decide) inX6 rfl qf_X9_198 rfl hd kk
theorem qf_X9_201 : Cond.fieldLinkNest "CostsAge" 201 "CostsAge$Standing" "year" "I" "CostsAge" ∈ lw_tbl := tb 148 (by decide +kernel)
theorem get_X9_201 (C : CX p s m args c cc nL "CostsAge" D cy ad G A R d cells slots) {i : Nat} (hg : wG G 26 i) (hd : decode cc pc = .ok (.getfield 201, 3)) (kk : V p l e R s m args below meth c nL D cy ad G A cells slots Q (pc + 3) lv (.int (M.1 26 i 5) :: st) M) : V p l e R s m args below meth c nL D cy ad G A cells slots Q pc lv (.ref (ad 26 i) :: st) M :=
  V_getN (k := 5) C hg wF_26 rfl (by decide) inX6 rfl qf_X9_201 rfl hd kk
theorem qf_X9_219 : Cond.fieldLinkNest "CostsAge" 219 "CostsAge$Scene" "names" "[I" "CostsAge" ∈ lw_tbl := tb 75 (by decide +kernel)
theorem get_X9_219 (C : CX p s m args c cc nL "CostsAge" D cy ad G A R d cells slots) {i : Nat} (hg : wG G 13 i) (hd : decode cc pc = .ok (.getfield 219, 3)) (kk : V p l e R s m args below meth c nL D cy ad G A cells slots Q (pc + 3) lv (.ref (ad 14 0) :: st) M) : V p l e R s m args below meth c nL D cy ad G A cells slots Q pc lv (.ref (ad 13 i) :: st) M :=
  V_getN (k := 0) C hg wF_13 rfl (by decide) inX4 rfl qf_X9_219 rfl hd kk
theorem qf_X9_222 : Cond.fieldLinkNest "CostsAge" 222 "CostsAge$Scene" "owner" "I" "CostsAge" ∈ lw_tbl := tb 78 (by decide +kernel)
theorem get_X9_222 (C : CX p s m args c cc nL "CostsAge" D cy ad G A R d cells slots) {i : Nat} (hg : wG G 13 i) (hd : decode cc pc = .ok (.getfield 222, 3)) (kk : V p l e R s m args below meth c nL D cy ad G A cells slots Q (pc + 3) lv (.int (M.1 13 i 2) :: st) M) : V p l e R s m args below meth c nL D cy ad G A cells slots Q pc lv (.ref (ad 13 i) :: st) M :=
  V_getN (k := 2) C hg wF_13 rfl (by decide) inX4 rfl qf_X9_222 rfl hd kk
theorem qf_X9_225 : Cond.fieldLinkNest "CostsAge" 225 "CostsAge$Text" "code" "[I" "CostsAge" ∈ lw_tbl := tb 217 (by decide +kernel)
theorem get_X9_225 (C : CX p s m args c cc nL "CostsAge" D cy ad G A R d cells slots) {i : Nat} (hg : wG G 7 i) (hd : decode cc pc = .ok (.getfield 225, 3)) (kk : V p l e R s m args below meth c nL D cy ad G A cells slots Q (pc + 3) lv (.ref (ad 8 i) :: st) M) : V p l e R s m args below meth c nL D cy ad G A cells slots Q pc lv (.ref (ad 7 i) :: st) M :=
  V_getN (k := 0) C hg wF_7 rfl (by decide) inX7 rfl qf_X9_225 rfl hd kk
theorem qf_X9_228 : Cond.fieldLinkNest "CostsAge" 228 "CostsAge$Text" "servesEnd" "I" "CostsAge" ∈ lw_tbl := tb 219 (by decide +kernel)
theorem get_X9_228 (C : CX p s m args c cc nL "CostsAge" D cy ad G A R d cells slots) {i : Nat} (hg : wG G 7 i) (hd : decode cc pc = .ok (.getfield 228, 3)) (kk : V p l e R s m args below meth c nL D cy ad G A cells slots Q (pc + 3) lv (.int (M.1 7 i 1) :: st) M) : V p l e R s m args below meth c nL D cy ad G A cells slots Q pc lv (.ref (ad 7 i) :: st) M :=
  V_getN (k := 1) C hg wF_7 rfl (by decide) inX7 rfl qf_X9_228 rfl hd kk
theorem qf_X9_234 : Cond.fieldLinkNest "CostsAge" 234 "CostsAge$Text" "addsEnd" "I" "CostsAge" ∈ lw_tbl := tb 221 (by decide +kernel)
theorem get_X9_234 (C : CX p s m args c cc nL "CostsAge" D cy ad G A R d cells slots) {i : Nat} (hg : wG G 7 i) (hd : decode cc pc = .ok (.getfield 234, 3)) (kk : V p l e R s m args below meth c nL D cy ad G A cells slots Q (pc + 3) lv (.int (M.1 7 i 2) :: st) M) : V p l e R s m args below meth c nL D cy ad G A cells slots Q pc lv (.ref (ad 7 i) :: st) M :=
  V_getN (k := 2) C hg wF_7 rfl (by decide) inX7 rfl qf_X9_234 rfl hd kk
theorem qf_X9_246 : Cond.fieldLinkNest "CostsAge" 246 "CostsAge$Plan" "total" "[I" "CostsAge" ∈ lw_tbl := tb 95 (by decide +kernel)
theorem get_X9_246 (C : CX p s m args c cc nL "CostsAge" D cy ad G A R d cells slots) {i : Nat} (hg : wG G 16 i) (hd : decode cc pc = .ok (.getfield 246, 3)) (kk : V p l e R s m args below meth c nL D cy ad G A cells slots Q (pc + 3) lv (.ref (ad 18 0) :: st) M) : V p l e R s m args below meth c nL D cy ad G A cells slots Q pc lv (.ref (ad 16 i) :: st) M :=
  V_getN (k := 1) C hg wF_16 rfl (by decide) inX2 rfl qf_X9_246 rfl hd kk
theorem qf_X9_249 : Cond.fieldLinkNest "CostsAge" 249 "CostsAge$Plan" "heaps" "[I" "CostsAge" ∈ lw_tbl := tb 97 (by decide +kernel)
theorem get_X9_249 (C : CX p s m args c cc nL "CostsAge" D cy ad G A R d cells slots) {i : Nat} (hg : wG G 16 i) (hd : decode cc pc = .ok (.getfield 249, 3)) (kk : V p l e R s m args below meth c nL D cy ad G A cells slots Q (pc + 3) lv (.ref (ad 19 0) :: st) M) : V p l e R s m args below meth c nL D cy ad G A cells slots Q pc lv (.ref (ad 16 i) :: st) M :=
  V_getN (k := 2) C hg wF_16 rfl (by decide) inX2 rfl qf_X9_249 rfl hd kk
theorem qf_X9_255 : Cond.fieldLinkNest "CostsAge" 255 "CostsAge$Plan" "price" "[I" "CostsAge" ∈ lw_tbl := tb 93 (by decide +kernel)
theorem get_X9_255 (C : CX p s m args c cc nL "CostsAge" D cy ad G A R d cells slots) {i : Nat} (hg : wG G 16 i) (hd : decode cc pc = .ok (.getfield 255, 3)) (kk : V p l e R s m args below meth c nL D cy ad G A cells slots Q (pc + 3) lv (.ref (ad 17 0) :: st) M) : V p l e R s m args below meth c nL D cy ad G A cells slots Q pc lv (.ref (ad 16 i) :: st) M :=
  V_getN (k := 0) C hg wF_16 rfl (by decide) inX2 rfl qf_X9_255 rfl hd kk
theorem qf_X9_273 : Cond.fieldLinkNest "CostsAge" 273 "CostsAge$Plan" "crew" "[I" "CostsAge" ∈ lw_tbl := tb 100 (by decide +kernel)
theorem get_X9_273 (C : CX p s m args c cc nL "CostsAge" D cy ad G A R d cells slots) {i : Nat} (hg : wG G 16 i) (hd : decode cc pc = .ok (.getfield 273, 3)) (kk : V p l e R s m args below meth c nL D cy ad G A cells slots Q (pc + 3) lv (.ref (ad 21 0) :: st) M) : V p l e R s m args below meth c nL D cy ad G A cells slots Q pc lv (.ref (ad 16 i) :: st) M :=
  V_getN (k := 4) C hg wF_16 rfl (by decide) inX2 rfl qf_X9_273 rfl hd kk
theorem qf_X9_279 : Cond.fieldLinkNest "CostsAge" 279 "CostsAge$Fees" "costs" "[I" "CostsAge" ∈ lw_tbl := tb 119 (by decide +kernel)
theorem get_X9_279 (C : CX p s m args c cc nL "CostsAge" D cy ad G A R d cells slots) {i : Nat} (hg : wG G 22 i) (hd : decode cc pc = .ok (.getfield 279, 3)) (kk : V p l e R s m args below meth c nL D cy ad G A cells slots Q (pc + 3) lv (.ref (ad 23 0) :: st) M) : V p l e R s m args below meth c nL D cy ad G A cells slots Q pc lv (.ref (ad 22 i) :: st) M :=
  V_getN (k := 0) C hg wF_22 rfl (by decide) inX1 rfl qf_X9_279 rfl hd kk
theorem qf_X9_287 : Cond.fieldLinkNest "CostsAge" 287 "CostsAge$Text" "gainsEnd" "I" "CostsAge" ∈ lw_tbl := tb 223 (by decide +kernel)
theorem get_X9_287 (C : CX p s m args c cc nL "CostsAge" D cy ad G A R d cells slots) {i : Nat} (hg : wG G 7 i) (hd : decode cc pc = .ok (.getfield 287, 3)) (kk : V p l e R s m args below meth c nL D cy ad G A cells slots Q (pc + 3) lv (.int (M.1 7 i 3) :: st) M) : V p l e R s m args below meth c nL D cy ad G A cells slots Q pc lv (.ref (ad 7 i) :: st) M :=
  V_getN (k := 3) C hg wF_7 rfl (by decide) inX7 rfl qf_X9_287 rfl hd kk
theorem qf_X9_293 : Cond.fieldLinkNest "CostsAge" 293 "CostsAge$Fees" "asked" "[I" "CostsAge" ∈ lw_tbl := tb 121 (by decide +kernel)
theorem get_X9_293 (C : CX p s m args c cc nL "CostsAge" D cy ad G A R d cells slots) {i : Nat} (hg : wG G 22 i) (hd : decode cc pc = .ok (.getfield 293, 3)) (kk : V p l e R s m args below meth c nL D cy ad G A cells slots Q (pc + 3) lv (.ref (ad 24 0) :: st) M) : V p l e R s m args below meth c nL D cy ad G A cells slots Q pc lv (.ref (ad 22 i) :: st) M :=
  V_getN (k := 1) C hg wF_22 rfl (by decide) inX1 rfl qf_X9_293 rfl hd kk
theorem qf_X9_309 : Cond.fieldLinkNest "CostsAge" 309 "CostsAge$Fees" "bars" "[I" "CostsAge" ∈ lw_tbl := tb 123 (by decide +kernel)
theorem get_X9_309 (C : CX p s m args c cc nL "CostsAge" D cy ad G A R d cells slots) {i : Nat} (hg : wG G 22 i) (hd : decode cc pc = .ok (.getfield 309, 3)) (kk : V p l e R s m args below meth c nL D cy ad G A cells slots Q (pc + 3) lv (.ref (ad 25 0) :: st) M) : V p l e R s m args below meth c nL D cy ad G A cells slots Q pc lv (.ref (ad 22 i) :: st) M :=
  V_getN (k := 2) C hg wF_22 rfl (by decide) inX1 rfl qf_X9_309 rfl hd kk
theorem qf_X9_319 : Cond.fieldLinkNest "CostsAge" 319 "CostsAge$Sheet" "size" "I" "CostsAge" ∈ lw_tbl := tb 243 (by decide +kernel)
theorem get_X9_319 (C : CX p s m args c cc nL "CostsAge" D cy ad G A R d cells slots) {i : Nat} (hg : wG G 9 i) (hd : decode cc pc = .ok (.getfield 319, 3)) (kk : V p l e R s m args below meth c nL D cy ad G A cells slots Q (pc + 3) lv (.int (M.1 9 i 2) :: st) M) : V p l e R s m args below meth c nL D cy ad G A cells slots Q pc lv (.ref (ad 9 i) :: st) M :=
  V_getN (k := 2) C hg wF_9 rfl (by decide) inX5 rfl qf_X9_319 rfl hd kk
theorem qf_X9_320 : Cond.fieldLinkNest "CostsAge" 320 "CostsAge$Sheet" "cells" "[I" "CostsAge" ∈ lw_tbl := tb 239 (by decide +kernel)
theorem get_X9_320 (C : CX p s m args c cc nL "CostsAge" D cy ad G A R d cells slots) {i : Nat} (hg : wG G 9 i) (hd : decode cc pc = .ok (.getfield 320, 3)) (kk : V p l e R s m args below meth c nL D cy ad G A cells slots Q (pc + 3) lv (.ref (ad 10 i) :: st) M) : V p l e R s m args below meth c nL D cy ad G A cells slots Q pc lv (.ref (ad 9 i) :: st) M :=
  V_getN (k := 0) C hg wF_9 rfl (by decide) inX5 rfl qf_X9_320 rfl hd kk
theorem qf_X9_331 : Cond.fieldLinkNest "CostsAge" 331 "CostsAge$Standing" "buyerCount" "I" "CostsAge" ∈ lw_tbl := tb 155 (by decide +kernel)
theorem get_X9_331 (C : CX p s m args c cc nL "CostsAge" D cy ad G A R d cells slots) {i : Nat} (hg : wG G 26 i) (hd : decode cc pc = .ok (.getfield 331, 3)) (kk : V p l e R s m args below meth c nL D cy ad G A cells slots Q (pc + 3) lv (.int (M.1 26 i 9) :: st) M) : V p l e R s m args below meth c nL D cy ad G A cells slots Q pc lv (.ref (ad 26 i) :: st) M :=
  V_getN (k := 9) C hg wF_26 rfl (by decide) inX6 rfl qf_X9_331 rfl hd kk
theorem qf_X9_332 : Cond.fieldLinkNest "CostsAge" 332 "CostsAge$Standing" "wareCount" "I" "CostsAge" ∈ lw_tbl := tb 156 (by decide +kernel)
theorem get_X9_332 (C : CX p s m args c cc nL "CostsAge" D cy ad G A R d cells slots) {i : Nat} (hg : wG G 26 i) (hd : decode cc pc = .ok (.getfield 332, 3)) (kk : V p l e R s m args below meth c nL D cy ad G A cells slots Q (pc + 3) lv (.int (M.1 26 i 10) :: st) M) : V p l e R s m args below meth c nL D cy ad G A cells slots Q pc lv (.ref (ad 26 i) :: st) M :=
  V_getN (k := 10) C hg wF_26 rfl (by decide) inX6 rfl qf_X9_332 rfl hd kk
theorem qf_X9_333 : Cond.fieldLink "CostsAge" 333 "CostsAge" "hasImage" "Z" ∈ lw_good := tg (tb 401 (by decide +kernel)) rfl
theorem get_X9_333 (C : CX p s m args c cc nL "CostsAge" D cy ad G A R d cells slots) {i : Nat} (hg : wG G 0 i) (hd : decode cc pc = .ok (.getfield 333, 3)) (kk : V p l e R s m args below meth c nL D cy ad G A cells slots Q (pc + 3) lv (.int (M.1 0 i 10) :: st) M) : V p l e R s m args below meth c nL D cy ad G A cells slots Q pc lv (.ref (ad 0 i) :: st) M :=
  V_get (k := 10) C hg wF_0 rfl (by decide) inX9 rfl qf_X9_333 rfl hd kk
theorem qf_X9_348 : Cond.fieldLinkNest "CostsAge" 348 "CostsAge$Sheet" "sort" "I" "CostsAge" ∈ lw_tbl := tb 241 (by decide +kernel)
theorem get_X9_348 (C : CX p s m args c cc nL "CostsAge" D cy ad G A R d cells slots) {i : Nat} (hg : wG G 9 i) (hd : decode cc pc = .ok (.getfield 348, 3)) (kk : V p l e R s m args below meth c nL D cy ad G A cells slots Q (pc + 3) lv (.int (M.1 9 i 1) :: st) M) : V p l e R s m args below meth c nL D cy ad G A cells slots Q pc lv (.ref (ad 9 i) :: st) M :=
  V_getN (k := 1) C hg wF_9 rfl (by decide) inX5 rfl qf_X9_348 rfl hd kk
theorem qf_X0_9 : Cond.fieldLink "CostsAge$Buyer" 9 "CostsAge$Buyer" "born" "I" ∈ lw_good := tg (tb 187 (by decide +kernel)) rfl
theorem get_X0_9 (C : CX p s m args c cc nL "CostsAge$Buyer" D cy ad G A R d cells slots) {i : Nat} (hg : wG G 5 i) (hd : decode cc pc = .ok (.getfield 9, 3)) (kk : V p l e R s m args below meth c nL D cy ad G A cells slots Q (pc + 3) lv (.int (M.1 5 i 1) :: st) M) : V p l e R s m args below meth c nL D cy ad G A cells slots Q pc lv (.ref (ad 5 i) :: st) M :=
  V_get (k := 1) C hg wF_5 rfl (by decide) inX0 rfl qf_X0_9 rfl hd kk
theorem qf_X0_15 : Cond.fieldLink "CostsAge$Buyer" 15 "CostsAge$Buyer" "kind" "I" ∈ lw_good := tg (tb 186 (by decide +kernel)) rfl
theorem get_X0_15 (C : CX p s m args c cc nL "CostsAge$Buyer" D cy ad G A R d cells slots) {i : Nat} (hg : wG G 5 i) (hd : decode cc pc = .ok (.getfield 15, 3)) (kk : V p l e R s m args below meth c nL D cy ad G A cells slots Q (pc + 3) lv (.int (M.1 5 i 0) :: st) M) : V p l e R s m args below meth c nL D cy ad G A cells slots Q pc lv (.ref (ad 5 i) :: st) M :=
  V_get (k := 0) C hg wF_5 rfl (by decide) inX0 rfl qf_X0_15 rfl hd kk
theorem qf_X0_31 : Cond.fieldLink "CostsAge$Buyer" 31 "CostsAge$Buyer" "number" "I" ∈ lw_good := tg (tb 190 (by decide +kernel)) rfl
theorem get_X0_31 (C : CX p s m args c cc nL "CostsAge$Buyer" D cy ad G A R d cells slots) {i : Nat} (hg : wG G 5 i) (hd : decode cc pc = .ok (.getfield 31, 3)) (kk : V p l e R s m args below meth c nL D cy ad G A cells slots Q (pc + 3) lv (.int (M.1 5 i 2) :: st) M) : V p l e R s m args below meth c nL D cy ad G A cells slots Q pc lv (.ref (ad 5 i) :: st) M :=
  V_get (k := 2) C hg wF_5 rfl (by decide) inX0 rfl qf_X0_31 rfl hd kk
theorem qf_X1_9 : Cond.fieldLink "CostsAge$Fees" 9 "CostsAge$Fees" "costs" "[I" ∈ lw_good := tg (tb 118 (by decide +kernel)) rfl
theorem get_X1_9 (C : CX p s m args c cc nL "CostsAge$Fees" D cy ad G A R d cells slots) {i : Nat} (hg : wG G 22 i) (hd : decode cc pc = .ok (.getfield 9, 3)) (kk : V p l e R s m args below meth c nL D cy ad G A cells slots Q (pc + 3) lv (.ref (ad 23 0) :: st) M) : V p l e R s m args below meth c nL D cy ad G A cells slots Q pc lv (.ref (ad 22 i) :: st) M :=
  V_get (k := 0) C hg wF_22 rfl (by decide) inX1 rfl qf_X1_9 rfl hd kk
theorem qf_X1_18 : Cond.fieldLink "CostsAge$Fees" 18 "CostsAge$Fees" "bars" "[I" ∈ lw_good := tg (tb 122 (by decide +kernel)) rfl
theorem get_X1_18 (C : CX p s m args c cc nL "CostsAge$Fees" D cy ad G A R d cells slots) {i : Nat} (hg : wG G 22 i) (hd : decode cc pc = .ok (.getfield 18, 3)) (kk : V p l e R s m args below meth c nL D cy ad G A cells slots Q (pc + 3) lv (.ref (ad 25 0) :: st) M) : V p l e R s m args below meth c nL D cy ad G A cells slots Q pc lv (.ref (ad 22 i) :: st) M :=
  V_get (k := 2) C hg wF_22 rfl (by decide) inX1 rfl qf_X1_18 rfl hd kk
theorem qf_X2_9 : Cond.fieldLink "CostsAge$Plan" 9 "CostsAge$Plan" "price" "[I" ∈ lw_good := tg (tb 92 (by decide +kernel)) rfl
theorem get_X2_9 (C : CX p s m args c cc nL "CostsAge$Plan" D cy ad G A R d cells slots) {i : Nat} (hg : wG G 16 i) (hd : decode cc pc = .ok (.getfield 9, 3)) (kk : V p l e R s m args below meth c nL D cy ad G A cells slots Q (pc + 3) lv (.ref (ad 17 0) :: st) M) : V p l e R s m args below meth c nL D cy ad G A cells slots Q pc lv (.ref (ad 16 i) :: st) M :=
  V_get (k := 0) C hg wF_16 rfl (by decide) inX2 rfl qf_X2_9 rfl hd kk
theorem qf_X2_15 : Cond.fieldLink "CostsAge$Plan" 15 "CostsAge$Plan" "total" "[I" ∈ lw_good := tg (tb 94 (by decide +kernel)) rfl
theorem get_X2_15 (C : CX p s m args c cc nL "CostsAge$Plan" D cy ad G A R d cells slots) {i : Nat} (hg : wG G 16 i) (hd : decode cc pc = .ok (.getfield 15, 3)) (kk : V p l e R s m args below meth c nL D cy ad G A cells slots Q (pc + 3) lv (.ref (ad 18 0) :: st) M) : V p l e R s m args below meth c nL D cy ad G A cells slots Q pc lv (.ref (ad 16 i) :: st) M :=
  V_get (k := 1) C hg wF_16 rfl (by decide) inX2 rfl qf_X2_15 rfl hd kk
theorem qf_X2_18 : Cond.fieldLink "CostsAge$Plan" 18 "CostsAge$Plan" "heaps" "[I" ∈ lw_good := tg (tb 96 (by decide +kernel)) rfl
theorem get_X2_18 (C : CX p s m args c cc nL "CostsAge$Plan" D cy ad G A R d cells slots) {i : Nat} (hg : wG G 16 i) (hd : decode cc pc = .ok (.getfield 18, 3)) (kk : V p l e R s m args below meth c nL D cy ad G A cells slots Q (pc + 3) lv (.ref (ad 19 0) :: st) M) : V p l e R s m args below meth c nL D cy ad G A cells slots Q pc lv (.ref (ad 16 i) :: st) M :=
  V_get (k := 2) C hg wF_16 rfl (by decide) inX2 rfl qf_X2_18 rfl hd kk
theorem qf_X2_21 : Cond.fieldLink "CostsAge$Plan" 21 "CostsAge$Plan" "first" "[I" ∈ lw_good := tg (tb 98 (by decide +kernel)) rfl
theorem get_X2_21 (C : CX p s m args c cc nL "CostsAge$Plan" D cy ad G A R d cells slots) {i : Nat} (hg : wG G 16 i) (hd : decode cc pc = .ok (.getfield 21, 3)) (kk : V p l e R s m args below meth c nL D cy ad G A cells slots Q (pc + 3) lv (.ref (ad 20 0) :: st) M) : V p l e R s m args below meth c nL D cy ad G A cells slots Q pc lv (.ref (ad 16 i) :: st) M :=
  V_get (k := 3) C hg wF_16 rfl (by decide) inX2 rfl qf_X2_21 rfl hd kk
theorem qf_X3_9 : Cond.fieldLink "CostsAge$Reader" 9 "CostsAge$Reader" "tape" "[I" ∈ lw_good := tg (tb 41 (by decide +kernel)) rfl
theorem get_X3_9 (C : CX p s m args c cc nL "CostsAge$Reader" D cy ad G A R d cells slots) {i : Nat} (hg : wG G 11 i) (hd : decode cc pc = .ok (.getfield 9, 3)) (kk : V p l e R s m args below meth c nL D cy ad G A cells slots Q (pc + 3) lv (.ref (ad 12 0) :: st) M) : V p l e R s m args below meth c nL D cy ad G A cells slots Q pc lv (.ref (ad 11 i) :: st) M :=
  V_get (k := 0) C hg wF_11 rfl (by decide) inX3 rfl qf_X3_9 rfl hd kk
theorem qf_X3_15 : Cond.fieldLink "CostsAge$Reader" 15 "CostsAge$Reader" "size" "I" ∈ lw_good := tg (tb 42 (by decide +kernel)) rfl
theorem get_X3_15 (C : CX p s m args c cc nL "CostsAge$Reader" D cy ad G A R d cells slots) {i : Nat} (hg : wG G 11 i) (hd : decode cc pc = .ok (.getfield 15, 3)) (kk : V p l e R s m args below meth c nL D cy ad G A cells slots Q (pc + 3) lv (.int (M.1 11 i 1) :: st) M) : V p l e R s m args below meth c nL D cy ad G A cells slots Q pc lv (.ref (ad 11 i) :: st) M :=
  V_get (k := 1) C hg wF_11 rfl (by decide) inX3 rfl qf_X3_15 rfl hd kk
theorem qf_X3_19 : Cond.fieldLink "CostsAge$Reader" 19 "CostsAge$Reader" "at" "I" ∈ lw_good := tg (tb 44 (by decide +kernel)) rfl
theorem get_X3_19 (C : CX p s m args c cc nL "CostsAge$Reader" D cy ad G A R d cells slots) {i : Nat} (hg : wG G 11 i) (hd : decode cc pc = .ok (.getfield 19, 3)) (kk : V p l e R s m args below meth c nL D cy ad G A cells slots Q (pc + 3) lv (.int (M.1 11 i 2) :: st) M) : V p l e R s m args below meth c nL D cy ad G A cells slots Q pc lv (.ref (ad 11 i) :: st) M :=
  V_get (k := 2) C hg wF_11 rfl (by decide) inX3 rfl qf_X3_19 rfl hd kk
theorem qf_X3_22 : Cond.fieldLink "CostsAge$Reader" 22 "CostsAge$Reader" "length" "I" ∈ lw_good := tg (tb 49 (by decide +kernel)) rfl
theorem get_X3_22 (C : CX p s m args c cc nL "CostsAge$Reader" D cy ad G A R d cells slots) {i : Nat} (hg : wG G 11 i) (hd : decode cc pc = .ok (.getfield 22, 3)) (kk : V p l e R s m args below meth c nL D cy ad G A cells slots Q (pc + 3) lv (.int (M.1 11 i 7) :: st) M) : V p l e R s m args below meth c nL D cy ad G A cells slots Q pc lv (.ref (ad 11 i) :: st) M :=
  V_get (k := 7) C hg wF_11 rfl (by decide) inX3 rfl qf_X3_22 rfl hd kk
theorem qf_X3_25 : Cond.fieldLink "CostsAge$Reader" 25 "CostsAge$Reader" "fault" "I" ∈ lw_good := tg (tb 48 (by decide +kernel)) rfl
theorem get_X3_25 (C : CX p s m args c cc nL "CostsAge$Reader" D cy ad G A R d cells slots) {i : Nat} (hg : wG G 11 i) (hd : decode cc pc = .ok (.getfield 25, 3)) (kk : V p l e R s m args below meth c nL D cy ad G A cells slots Q (pc + 3) lv (.int (M.1 11 i 6) :: st) M) : V p l e R s m args below meth c nL D cy ad G A cells slots Q pc lv (.ref (ad 11 i) :: st) M :=
  V_get (k := 6) C hg wF_11 rfl (by decide) inX3 rfl qf_X3_25 rfl hd kk
theorem qf_X3_31 : Cond.fieldLinkNest "CostsAge$Reader" 31 "CostsAge$Text" "code" "[I" "CostsAge" ∈ lw_tbl := tb 216 (by decide +kernel)
theorem get_X3_31 (C : CX p s m args c cc nL "CostsAge$Reader" D cy ad G A R d cells slots) {i : Nat} (hg : wG G 7 i) (hd : decode cc pc = .ok (.getfield 31, 3)) (kk : V p l e R s m args below meth c nL D cy ad G A cells slots Q (pc + 3) lv (.ref (ad 8 i) :: st) M) : V p l e R s m args below meth c nL D cy ad G A cells slots Q pc lv (.ref (ad 7 i) :: st) M :=
  V_getN (k := 0) C hg wF_7 rfl (by decide) inX7 rfl qf_X3_31 rfl hd kk
theorem qf_X3_49 : Cond.fieldLink "CostsAge$Reader" 49 "CostsAge$Reader" "token" "I" ∈ lw_good := tg (tb 46 (by decide +kernel)) rfl
theorem get_X3_49 (C : CX p s m args c cc nL "CostsAge$Reader" D cy ad G A R d cells slots) {i : Nat} (hg : wG G 11 i) (hd : decode cc pc = .ok (.getfield 49, 3)) (kk : V p l e R s m args below meth c nL D cy ad G A cells slots Q (pc + 3) lv (.int (M.1 11 i 4) :: st) M) : V p l e R s m args below meth c nL D cy ad G A cells slots Q pc lv (.ref (ad 11 i) :: st) M :=
  V_get (k := 4) C hg wF_11 rfl (by decide) inX3 rfl qf_X3_49 rfl hd kk
theorem qf_X3_85 : Cond.fieldLink "CostsAge$Reader" 85 "CostsAge$Reader" "piece" "I" ∈ lw_good := tg (tb 47 (by decide +kernel)) rfl
theorem get_X3_85 (C : CX p s m args c cc nL "CostsAge$Reader" D cy ad G A R d cells slots) {i : Nat} (hg : wG G 11 i) (hd : decode cc pc = .ok (.getfield 85, 3)) (kk : V p l e R s m args below meth c nL D cy ad G A cells slots Q (pc + 3) lv (.int (M.1 11 i 5) :: st) M) : V p l e R s m args below meth c nL D cy ad G A cells slots Q pc lv (.ref (ad 11 i) :: st) M :=
  V_get (k := 5) C hg wF_11 rfl (by decide) inX3 rfl qf_X3_85 rfl hd kk
theorem qf_X3_88 : Cond.fieldLink "CostsAge$Reader" 88 "CostsAge$Reader" "place" "I" ∈ lw_good := tg (tb 45 (by decide +kernel)) rfl
theorem get_X3_88 (C : CX p s m args c cc nL "CostsAge$Reader" D cy ad G A R d cells slots) {i : Nat} (hg : wG G 11 i) (hd : decode cc pc = .ok (.getfield 88, 3)) (kk : V p l e R s m args below meth c nL D cy ad G A cells slots Q (pc + 3) lv (.int (M.1 11 i 3) :: st) M) : V p l e R s m args below meth c nL D cy ad G A cells slots Q pc lv (.ref (ad 11 i) :: st) M :=
  V_get (k := 3) C hg wF_11 rfl (by decide) inX3 rfl qf_X3_88 rfl hd kk
theorem qf_X4_9 : Cond.fieldLink "CostsAge$Scene" 9 "CostsAge$Scene" "names" "[I" ∈ lw_good := tg (tb 74 (by decide +kernel)) rfl
theorem get_X4_9 (C : CX p s m args c cc nL "CostsAge$Scene" D cy ad G A R d cells slots) {i : Nat} (hg : wG G 13 i) (hd : decode cc pc = .ok (.getfield 9, 3)) (kk : V p l e R s m args below meth c nL D cy ad G A cells slots Q (pc + 3) lv (.ref (ad 14 0) :: st) M) : V p l e R s m args below meth c nL D cy ad G A cells slots Q pc lv (.ref (ad 13 i) :: st) M :=
  V_get (k := 0) C hg wF_13 rfl (by decide) inX4 rfl qf_X4_9 rfl hd kk
theorem qf_X4_15 : Cond.fieldLink "CostsAge$Scene" 15 "CostsAge$Scene" "stack" "[I" ∈ lw_good := tg (tb 76 (by decide +kernel)) rfl
theorem get_X4_15 (C : CX p s m args c cc nL "CostsAge$Scene" D cy ad G A R d cells slots) {i : Nat} (hg : wG G 13 i) (hd : decode cc pc = .ok (.getfield 15, 3)) (kk : V p l e R s m args below meth c nL D cy ad G A cells slots Q (pc + 3) lv (.ref (ad 15 0) :: st) M) : V p l e R s m args below meth c nL D cy ad G A cells slots Q pc lv (.ref (ad 13 i) :: st) M :=
  V_get (k := 1) C hg wF_13 rfl (by decide) inX4 rfl qf_X4_15 rfl hd kk
theorem qf_X5_9 : Cond.fieldLink "CostsAge$Sheet" 9 "CostsAge$Sheet" "cells" "[I" ∈ lw_good := tg (tb 238 (by decide +kernel)) rfl
theorem get_X5_9 (C : CX p s m args c cc nL "CostsAge$Sheet" D cy ad G A R d cells slots) {i : Nat} (hg : wG G 9 i) (hd : decode cc pc = .ok (.getfield 9, 3)) (kk : V p l e R s m args below meth c nL D cy ad G A cells slots Q (pc + 3) lv (.ref (ad 10 i) :: st) M) : V p l e R s m args below meth c nL D cy ad G A cells slots Q pc lv (.ref (ad 9 i) :: st) M :=
  V_get (k := 0) C hg wF_9 rfl (by decide) inX5 rfl qf_X5_9 rfl hd kk
theorem qf_X5_15 : Cond.fieldLink "CostsAge$Sheet" 15 "CostsAge$Sheet" "sort" "I" ∈ lw_good := tg (tb 240 (by decide +kernel)) rfl
theorem get_X5_15 (C : CX p s m args c cc nL "CostsAge$Sheet" D cy ad G A R d cells slots) {i : Nat} (hg : wG G 9 i) (hd : decode cc pc = .ok (.getfield 15, 3)) (kk : V p l e R s m args below meth c nL D cy ad G A cells slots Q (pc + 3) lv (.int (M.1 9 i 1) :: st) M) : V p l e R s m args below meth c nL D cy ad G A cells slots Q pc lv (.ref (ad 9 i) :: st) M :=
  V_get (k := 1) C hg wF_9 rfl (by decide) inX5 rfl qf_X5_15 rfl hd kk
theorem qf_X5_19 : Cond.fieldLink "CostsAge$Sheet" 19 "CostsAge$Sheet" "size" "I" ∈ lw_good := tg (tb 242 (by decide +kernel)) rfl
theorem get_X5_19 (C : CX p s m args c cc nL "CostsAge$Sheet" D cy ad G A R d cells slots) {i : Nat} (hg : wG G 9 i) (hd : decode cc pc = .ok (.getfield 19, 3)) (kk : V p l e R s m args below meth c nL D cy ad G A cells slots Q (pc + 3) lv (.int (M.1 9 i 2) :: st) M) : V p l e R s m args below meth c nL D cy ad G A cells slots Q pc lv (.ref (ad 9 i) :: st) M :=
  V_get (k := 2) C hg wF_9 rfl (by decide) inX5 rfl qf_X5_19 rfl hd kk
theorem qf_X6_9 : Cond.fieldLink "CostsAge$Standing" 9 "CostsAge$Standing" "years" "[I" ∈ lw_good := tg (tb 137 (by decide +kernel)) rfl
theorem get_X6_9 (C : CX p s m args c cc nL "CostsAge$Standing" D cy ad G A R d cells slots) {i : Nat} (hg : wG G 26 i) (hd : decode cc pc = .ok (.getfield 9, 3)) (kk : V p l e R s m args below meth c nL D cy ad G A cells slots Q (pc + 3) lv (.ref (ad 27 i) :: st) M) : V p l e R s m args below meth c nL D cy ad G A cells slots Q pc lv (.ref (ad 26 i) :: st) M :=
  V_get (k := 0) C hg wF_26 rfl (by decide) inX6 rfl qf_X6_9 rfl hd kk
theorem qf_X6_15 : Cond.fieldLink "CostsAge$Standing" 15 "CostsAge$Standing" "fees" "[I" ∈ lw_good := tg (tb 139 (by decide +kernel)) rfl
theorem get_X6_15 (C : CX p s m args c cc nL "CostsAge$Standing" D cy ad G A R d cells slots) {i : Nat} (hg : wG G 26 i) (hd : decode cc pc = .ok (.getfield 15, 3)) (kk : V p l e R s m args below meth c nL D cy ad G A cells slots Q (pc + 3) lv (.ref (ad 28 i) :: st) M) : V p l e R s m args below meth c nL D cy ad G A cells slots Q pc lv (.ref (ad 26 i) :: st) M :=
  V_get (k := 1) C hg wF_26 rfl (by decide) inX6 rfl qf_X6_15 rfl hd kk
theorem qf_X6_18 : Cond.fieldLink "CostsAge$Standing" 18 "CostsAge$Standing" "owners" "[I" ∈ lw_good := tg (tb 141 (by decide +kernel)) rfl
theorem get_X6_18 (C : CX p s m args c cc nL "CostsAge$Standing" D cy ad G A R d cells slots) {i : Nat} (hg : wG G 26 i) (hd : decode cc pc = .ok (.getfield 18, 3)) (kk : V p l e R s m args below meth c nL D cy ad G A cells slots Q (pc + 3) lv (.ref (ad 29 i) :: st) M) : V p l e R s m args below meth c nL D cy ad G A cells slots Q pc lv (.ref (ad 26 i) :: st) M :=
  V_get (k := 2) C hg wF_26 rfl (by decide) inX6 rfl qf_X6_18 rfl hd kk
theorem qf_X6_27 : Cond.fieldLink "CostsAge$Standing" 27 "CostsAge$Standing" "bought" "I" ∈ lw_good := tg (tb 143 (by decide +kernel)) rfl
theorem get_X6_27 (C : CX p s m args c cc nL "CostsAge$Standing" D cy ad G A R d cells slots) {i : Nat} (hg : wG G 26 i) (hd : decode cc pc = .ok (.getfield 27, 3)) (kk : V p l e R s m args below meth c nL D cy ad G A cells slots Q (pc + 3) lv (.int (M.1 26 i 3) :: st) M) : V p l e R s m args below meth c nL D cy ad G A cells slots Q pc lv (.ref (ad 26 i) :: st) M :=
  V_get (k := 3) C hg wF_26 rfl (by decide) inX6 rfl qf_X6_27 rfl hd kk
theorem qf_X6_31 : Cond.fieldLink "CostsAge$Standing" 31 "CostsAge$Standing" "week" "I" ∈ lw_good := tg (tb 145 (by decide +kernel)) rfl
theorem get_X6_31 (C : CX p s m args c cc nL "CostsAge$Standing" D cy ad G A R d cells slots) {i : Nat} (hg : wG G 26 i) (hd : decode cc pc = .ok (.getfield 31, 3)) (kk : V p l e R s m args below meth c nL D cy ad G A cells slots Q (pc + 3) lv (.int (M.1 26 i 4) :: st) M) : V p l e R s m args below meth c nL D cy ad G A cells slots Q pc lv (.ref (ad 26 i) :: st) M :=
  V_get (k := 4) C hg wF_26 rfl (by decide) inX6 rfl qf_X6_31 rfl hd kk
theorem qf_X6_34 : Cond.fieldLink "CostsAge$Standing" 34 "CostsAge$Standing" "year" "I" ∈ lw_good := tg (tb 147 (by decide +kernel)) rfl
theorem get_X6_34 (C : CX p s m args c cc nL "CostsAge$Standing" D cy ad G A R d cells slots) {i : Nat} (hg : wG G 26 i) (hd : decode cc pc = .ok (.getfield 34, 3)) (kk : V p l e R s m args below meth c nL D cy ad G A cells slots Q (pc + 3) lv (.int (M.1 26 i 5) :: st) M) : V p l e R s m args below meth c nL D cy ad G A cells slots Q pc lv (.ref (ad 26 i) :: st) M :=
  V_get (k := 5) C hg wF_26 rfl (by decide) inX6 rfl qf_X6_34 rfl hd kk
theorem qf_X6_37 : Cond.fieldLink "CostsAge$Standing" 37 "CostsAge$Standing" "till" "I" ∈ lw_good := tg (tb 149 (by decide +kernel)) rfl
theorem get_X6_37 (C : CX p s m args c cc nL "CostsAge$Standing" D cy ad G A R d cells slots) {i : Nat} (hg : wG G 26 i) (hd : decode cc pc = .ok (.getfield 37, 3)) (kk : V p l e R s m args below meth c nL D cy ad G A cells slots Q (pc + 3) lv (.int (M.1 26 i 6) :: st) M) : V p l e R s m args below meth c nL D cy ad G A cells slots Q pc lv (.ref (ad 26 i) :: st) M :=
  V_get (k := 6) C hg wF_26 rfl (by decide) inX6 rfl qf_X6_37 rfl hd kk
theorem qf_X6_40 : Cond.fieldLink "CostsAge$Standing" 40 "CostsAge$Standing" "carry" "I" ∈ lw_good := tg (tb 152 (by decide +kernel)) rfl
theorem get_X6_40 (C : CX p s m args c cc nL "CostsAge$Standing" D cy ad G A R d cells slots) {i : Nat} (hg : wG G 26 i) (hd : decode cc pc = .ok (.getfield 40, 3)) (kk : V p l e R s m args below meth c nL D cy ad G A cells slots Q (pc + 3) lv (.int (M.1 26 i 7) :: st) M) : V p l e R s m args below meth c nL D cy ad G A cells slots Q pc lv (.ref (ad 26 i) :: st) M :=
  V_get (k := 7) C hg wF_26 rfl (by decide) inX6 rfl qf_X6_40 rfl hd kk
theorem qf_X6_43 : Cond.fieldLink "CostsAge$Standing" 43 "CostsAge$Standing" "rule" "I" ∈ lw_good := tg (tb 153 (by decide +kernel)) rfl
theorem get_X6_43 (C : CX p s m args c cc nL "CostsAge$Standing" D cy ad G A R d cells slots) {i : Nat} (hg : wG G 26 i) (hd : decode cc pc = .ok (.getfield 43, 3)) (kk : V p l e R s m args below meth c nL D cy ad G A cells slots Q (pc + 3) lv (.int (M.1 26 i 8) :: st) M) : V p l e R s m args below meth c nL D cy ad G A cells slots Q pc lv (.ref (ad 26 i) :: st) M :=
  V_get (k := 8) C hg wF_26 rfl (by decide) inX6 rfl qf_X6_43 rfl hd kk
theorem qf_X10_13 : Cond.fieldLink "CostsAgeModel" 13 "CostsAgeModel" "texts" "[I" ∈ lw_good := tg (tb 773 (by decide +kernel)) rfl
theorem get_X10_13 (C : CX p s m args c cc nL "CostsAgeModel" D cy ad G A R d cells slots) {i : Nat} (hg : wG G 30 i) (hd : decode cc pc = .ok (.getfield 13, 3)) (kk : V p l e R s m args below meth c nL D cy ad G A cells slots Q (pc + 3) lv (.ref (ad 31 0) :: st) M) : V p l e R s m args below meth c nL D cy ad G A cells slots Q pc lv (.ref (ad 30 i) :: st) M :=
  V_get (k := 1) C hg wF_30 rfl (by decide) inX10 rfl qf_X10_13 rfl hd kk
theorem qf_X10_17 : Cond.fieldLink "CostsAgeModel" 17 "CostsAgeModel" "textSize" "[I" ∈ lw_good := tg (tb 774 (by decide +kernel)) rfl
theorem get_X10_17 (C : CX p s m args c cc nL "CostsAgeModel" D cy ad G A R d cells slots) {i : Nat} (hg : wG G 30 i) (hd : decode cc pc = .ok (.getfield 17, 3)) (kk : V p l e R s m args below meth c nL D cy ad G A cells slots Q (pc + 3) lv (.ref (ad 32 0) :: st) M) : V p l e R s m args below meth c nL D cy ad G A cells slots Q pc lv (.ref (ad 30 i) :: st) M :=
  V_get (k := 2) C hg wF_30 rfl (by decide) inX10 rfl qf_X10_17 rfl hd kk
theorem qf_X10_20 : Cond.fieldLink "CostsAgeModel" 20 "CostsAgeModel" "tape" "[I" ∈ lw_good := tg (tb 777 (by decide +kernel)) rfl
theorem get_X10_20 (C : CX p s m args c cc nL "CostsAgeModel" D cy ad G A R d cells slots) {i : Nat} (hg : wG G 30 i) (hd : decode cc pc = .ok (.getfield 20, 3)) (kk : V p l e R s m args below meth c nL D cy ad G A cells slots Q (pc + 3) lv (.ref (ad 33 0) :: st) M) : V p l e R s m args below meth c nL D cy ad G A cells slots Q pc lv (.ref (ad 30 i) :: st) M :=
  V_get (k := 5) C hg wF_30 rfl (by decide) inX10 rfl qf_X10_20 rfl hd kk
theorem qf_X10_23 : Cond.fieldLink "CostsAgeModel" 23 "CostsAgeModel" "kinds" "[I" ∈ lw_good := tg (tb 779 (by decide +kernel)) rfl
theorem get_X10_23 (C : CX p s m args c cc nL "CostsAgeModel" D cy ad G A R d cells slots) {i : Nat} (hg : wG G 30 i) (hd : decode cc pc = .ok (.getfield 23, 3)) (kk : V p l e R s m args below meth c nL D cy ad G A cells slots Q (pc + 3) lv (.ref (ad 34 0) :: st) M) : V p l e R s m args below meth c nL D cy ad G A cells slots Q pc lv (.ref (ad 30 i) :: st) M :=
  V_get (k := 7) C hg wF_30 rfl (by decide) inX10 rfl qf_X10_23 rfl hd kk
theorem qf_X10_26 : Cond.fieldLink "CostsAgeModel" 26 "CostsAgeModel" "born" "[I" ∈ lw_good := tg (tb 780 (by decide +kernel)) rfl
theorem get_X10_26 (C : CX p s m args c cc nL "CostsAgeModel" D cy ad G A R d cells slots) {i : Nat} (hg : wG G 30 i) (hd : decode cc pc = .ok (.getfield 26, 3)) (kk : V p l e R s m args below meth c nL D cy ad G A cells slots Q (pc + 3) lv (.ref (ad 35 0) :: st) M) : V p l e R s m args below meth c nL D cy ad G A cells slots Q pc lv (.ref (ad 30 i) :: st) M :=
  V_get (k := 8) C hg wF_30 rfl (by decide) inX10 rfl qf_X10_26 rfl hd kk
theorem qf_X10_29 : Cond.fieldLink "CostsAgeModel" 29 "CostsAgeModel" "ages" "[I" ∈ lw_good := tg (tb 781 (by decide +kernel)) rfl
theorem get_X10_29 (C : CX p s m args c cc nL "CostsAgeModel" D cy ad G A R d cells slots) {i : Nat} (hg : wG G 30 i) (hd : decode cc pc = .ok (.getfield 29, 3)) (kk : V p l e R s m args below meth c nL D cy ad G A cells slots Q (pc + 3) lv (.ref (ad 36 0) :: st) M) : V p l e R s m args below meth c nL D cy ad G A cells slots Q pc lv (.ref (ad 30 i) :: st) M :=
  V_get (k := 9) C hg wF_30 rfl (by decide) inX10 rfl qf_X10_29 rfl hd kk
theorem qf_X10_32 : Cond.fieldLink "CostsAgeModel" 32 "CostsAgeModel" "fees" "[I" ∈ lw_good := tg (tb 782 (by decide +kernel)) rfl
theorem get_X10_32 (C : CX p s m args c cc nL "CostsAgeModel" D cy ad G A R d cells slots) {i : Nat} (hg : wG G 30 i) (hd : decode cc pc = .ok (.getfield 32, 3)) (kk : V p l e R s m args below meth c nL D cy ad G A cells slots Q (pc + 3) lv (.ref (ad 37 0) :: st) M) : V p l e R s m args below meth c nL D cy ad G A cells slots Q pc lv (.ref (ad 30 i) :: st) M :=
  V_get (k := 10) C hg wF_30 rfl (by decide) inX10 rfl qf_X10_32 rfl hd kk
theorem qf_X10_35 : Cond.fieldLink "CostsAgeModel" 35 "CostsAgeModel" "numbers" "[I" ∈ lw_good := tg (tb 783 (by decide +kernel)) rfl
theorem get_X10_35 (C : CX p s m args c cc nL "CostsAgeModel" D cy ad G A R d cells slots) {i : Nat} (hg : wG G 30 i) (hd : decode cc pc = .ok (.getfield 35, 3)) (kk : V p l e R s m args below meth c nL D cy ad G A cells slots Q (pc + 3) lv (.ref (ad 38 0) :: st) M) : V p l e R s m args below meth c nL D cy ad G A cells slots Q pc lv (.ref (ad 30 i) :: st) M :=
  V_get (k := 11) C hg wF_30 rfl (by decide) inX10 rfl qf_X10_35 rfl hd kk
theorem qf_X10_38 : Cond.fieldLink "CostsAgeModel" 38 "CostsAgeModel" "sizes" "[I" ∈ lw_good := tg (tb 785 (by decide +kernel)) rfl
theorem get_X10_38 (C : CX p s m args c cc nL "CostsAgeModel" D cy ad G A R d cells slots) {i : Nat} (hg : wG G 30 i) (hd : decode cc pc = .ok (.getfield 38, 3)) (kk : V p l e R s m args below meth c nL D cy ad G A cells slots Q (pc + 3) lv (.ref (ad 39 0) :: st) M) : V p l e R s m args below meth c nL D cy ad G A cells slots Q pc lv (.ref (ad 30 i) :: st) M :=
  V_get (k := 13) C hg wF_30 rfl (by decide) inX10 rfl qf_X10_38 rfl hd kk
theorem qf_X10_41 : Cond.fieldLink "CostsAgeModel" 41 "CostsAgeModel" "values" "[I" ∈ lw_good := tg (tb 786 (by decide +kernel)) rfl
theorem get_X10_41 (C : CX p s m args c cc nL "CostsAgeModel" D cy ad G A R d cells slots) {i : Nat} (hg : wG G 30 i) (hd : decode cc pc = .ok (.getfield 41, 3)) (kk : V p l e R s m args below meth c nL D cy ad G A cells slots Q (pc + 3) lv (.ref (ad 40 0) :: st) M) : V p l e R s m args below meth c nL D cy ad G A cells slots Q pc lv (.ref (ad 30 i) :: st) M :=
  V_get (k := 14) C hg wF_30 rfl (by decide) inX10 rfl qf_X10_41 rfl hd kk
theorem qf_X10_44 : Cond.fieldLink "CostsAgeModel" 44 "CostsAgeModel" "owners" "[I" ∈ lw_good := tg (tb 787 (by decide +kernel)) rfl
theorem get_X10_44 (C : CX p s m args c cc nL "CostsAgeModel" D cy ad G A R d cells slots) {i : Nat} (hg : wG G 30 i) (hd : decode cc pc = .ok (.getfield 44, 3)) (kk : V p l e R s m args below meth c nL D cy ad G A cells slots Q (pc + 3) lv (.ref (ad 41 0) :: st) M) : V p l e R s m args below meth c nL D cy ad G A cells slots Q pc lv (.ref (ad 30 i) :: st) M :=
  V_get (k := 15) C hg wF_30 rfl (by decide) inX10 rfl qf_X10_44 rfl hd kk
theorem qf_X10_47 : Cond.fieldLink "CostsAgeModel" 47 "CostsAgeModel" "carry" "I" ∈ lw_good := tg (tb 793 (by decide +kernel)) rfl
theorem get_X10_47 (C : CX p s m args c cc nL "CostsAgeModel" D cy ad G A R d cells slots) {i : Nat} (hg : wG G 30 i) (hd : decode cc pc = .ok (.getfield 47, 3)) (kk : V p l e R s m args below meth c nL D cy ad G A cells slots Q (pc + 3) lv (.int (M.1 30 i 21) :: st) M) : V p l e R s m args below meth c nL D cy ad G A cells slots Q pc lv (.ref (ad 30 i) :: st) M :=
  V_get (k := 21) C hg wF_30 rfl (by decide) inX10 rfl qf_X10_47 rfl hd kk
theorem qf_X10_50 : Cond.fieldLink "CostsAgeModel" 50 "CostsAgeModel" "allCost" "[I" ∈ lw_good := tg (tb 811 (by decide +kernel)) rfl
theorem get_X10_50 (C : CX p s m args c cc nL "CostsAgeModel" D cy ad G A R d cells slots) {i : Nat} (hg : wG G 30 i) (hd : decode cc pc = .ok (.getfield 50, 3)) (kk : V p l e R s m args below meth c nL D cy ad G A cells slots Q (pc + 3) lv (.ref (ad 42 0) :: st) M) : V p l e R s m args below meth c nL D cy ad G A cells slots Q pc lv (.ref (ad 30 i) :: st) M :=
  V_get (k := 39) C hg wF_30 rfl (by decide) inX10 rfl qf_X10_50 rfl hd kk
theorem qf_X10_53 : Cond.fieldLink "CostsAgeModel" 53 "CostsAgeModel" "allHeaps" "[I" ∈ lw_good := tg (tb 812 (by decide +kernel)) rfl
theorem get_X10_53 (C : CX p s m args c cc nL "CostsAgeModel" D cy ad G A R d cells slots) {i : Nat} (hg : wG G 30 i) (hd : decode cc pc = .ok (.getfield 53, 3)) (kk : V p l e R s m args below meth c nL D cy ad G A cells slots Q (pc + 3) lv (.ref (ad 43 0) :: st) M) : V p l e R s m args below meth c nL D cy ad G A cells slots Q pc lv (.ref (ad 30 i) :: st) M :=
  V_get (k := 40) C hg wF_30 rfl (by decide) inX10 rfl qf_X10_53 rfl hd kk
theorem qf_X10_56 : Cond.fieldLink "CostsAgeModel" 56 "CostsAgeModel" "allFirst" "[I" ∈ lw_good := tg (tb 813 (by decide +kernel)) rfl
theorem get_X10_56 (C : CX p s m args c cc nL "CostsAgeModel" D cy ad G A R d cells slots) {i : Nat} (hg : wG G 30 i) (hd : decode cc pc = .ok (.getfield 56, 3)) (kk : V p l e R s m args below meth c nL D cy ad G A cells slots Q (pc + 3) lv (.ref (ad 44 0) :: st) M) : V p l e R s m args below meth c nL D cy ad G A cells slots Q pc lv (.ref (ad 30 i) :: st) M :=
  V_get (k := 41) C hg wF_30 rfl (by decide) inX10 rfl qf_X10_56 rfl hd kk
theorem qf_X10_59 : Cond.fieldLink "CostsAgeModel" 59 "CostsAgeModel" "heapCost" "[I" ∈ lw_good := tg (tb 814 (by decide +kernel)) rfl
theorem get_X10_59 (C : CX p s m args c cc nL "CostsAgeModel" D cy ad G A R d cells slots) {i : Nat} (hg : wG G 30 i) (hd : decode cc pc = .ok (.getfield 59, 3)) (kk : V p l e R s m args below meth c nL D cy ad G A cells slots Q (pc + 3) lv (.ref (ad 45 0) :: st) M) : V p l e R s m args below meth c nL D cy ad G A cells slots Q pc lv (.ref (ad 30 i) :: st) M :=
  V_get (k := 42) C hg wF_30 rfl (by decide) inX10 rfl qf_X10_59 rfl hd kk
theorem qf_X10_62 : Cond.fieldLink "CostsAgeModel" 62 "CostsAgeModel" "eachCost" "[I" ∈ lw_good := tg (tb 815 (by decide +kernel)) rfl
theorem get_X10_62 (C : CX p s m args c cc nL "CostsAgeModel" D cy ad G A R d cells slots) {i : Nat} (hg : wG G 30 i) (hd : decode cc pc = .ok (.getfield 62, 3)) (kk : V p l e R s m args below meth c nL D cy ad G A cells slots Q (pc + 3) lv (.ref (ad 46 0) :: st) M) : V p l e R s m args below meth c nL D cy ad G A cells slots Q pc lv (.ref (ad 30 i) :: st) M :=
  V_get (k := 43) C hg wF_30 rfl (by decide) inX10 rfl qf_X10_62 rfl hd kk
theorem qf_X10_65 : Cond.fieldLink "CostsAgeModel" 65 "CostsAgeModel" "eachNext" "[I" ∈ lw_good := tg (tb 816 (by decide +kernel)) rfl
theorem get_X10_65 (C : CX p s m args c cc nL "CostsAgeModel" D cy ad G A R d cells slots) {i : Nat} (hg : wG G 30 i) (hd : decode cc pc = .ok (.getfield 65, 3)) (kk : V p l e R s m args below meth c nL D cy ad G A cells slots Q (pc + 3) lv (.ref (ad 47 0) :: st) M) : V p l e R s m args below meth c nL D cy ad G A cells slots Q pc lv (.ref (ad 30 i) :: st) M :=
  V_get (k := 44) C hg wF_30 rfl (by decide) inX10 rfl qf_X10_65 rfl hd kk
theorem qf_X10_68 : Cond.fieldLink "CostsAgeModel" 68 "CostsAgeModel" "feesWas" "[I" ∈ lw_good := tg (tb 817 (by decide +kernel)) rfl
theorem get_X10_68 (C : CX p s m args c cc nL "CostsAgeModel" D cy ad G A R d cells slots) {i : Nat} (hg : wG G 30 i) (hd : decode cc pc = .ok (.getfield 68, 3)) (kk : V p l e R s m args below meth c nL D cy ad G A cells slots Q (pc + 3) lv (.ref (ad 48 0) :: st) M) : V p l e R s m args below meth c nL D cy ad G A cells slots Q pc lv (.ref (ad 30 i) :: st) M :=
  V_get (k := 45) C hg wF_30 rfl (by decide) inX10 rfl qf_X10_68 rfl hd kk
theorem qf_X10_71 : Cond.fieldLink "CostsAgeModel" 71 "CostsAgeModel" "agesKept" "[I" ∈ lw_good := tg (tb 818 (by decide +kernel)) rfl
theorem get_X10_71 (C : CX p s m args c cc nL "CostsAgeModel" D cy ad G A R d cells slots) {i : Nat} (hg : wG G 30 i) (hd : decode cc pc = .ok (.getfield 71, 3)) (kk : V p l e R s m args below meth c nL D cy ad G A cells slots Q (pc + 3) lv (.ref (ad 49 0) :: st) M) : V p l e R s m args below meth c nL D cy ad G A cells slots Q pc lv (.ref (ad 30 i) :: st) M :=
  V_get (k := 46) C hg wF_30 rfl (by decide) inX10 rfl qf_X10_71 rfl hd kk
theorem qf_X10_74 : Cond.fieldLink "CostsAgeModel" 74 "CostsAgeModel" "feesKept" "[I" ∈ lw_good := tg (tb 819 (by decide +kernel)) rfl
theorem get_X10_74 (C : CX p s m args c cc nL "CostsAgeModel" D cy ad G A R d cells slots) {i : Nat} (hg : wG G 30 i) (hd : decode cc pc = .ok (.getfield 74, 3)) (kk : V p l e R s m args below meth c nL D cy ad G A cells slots Q (pc + 3) lv (.ref (ad 50 0) :: st) M) : V p l e R s m args below meth c nL D cy ad G A cells slots Q pc lv (.ref (ad 30 i) :: st) M :=
  V_get (k := 47) C hg wF_30 rfl (by decide) inX10 rfl qf_X10_74 rfl hd kk
theorem qf_X10_77 : Cond.fieldLink "CostsAgeModel" 77 "CostsAgeModel" "ownersKept" "[I" ∈ lw_good := tg (tb 820 (by decide +kernel)) rfl
theorem get_X10_77 (C : CX p s m args c cc nL "CostsAgeModel" D cy ad G A R d cells slots) {i : Nat} (hg : wG G 30 i) (hd : decode cc pc = .ok (.getfield 77, 3)) (kk : V p l e R s m args below meth c nL D cy ad G A cells slots Q (pc + 3) lv (.ref (ad 51 0) :: st) M) : V p l e R s m args below meth c nL D cy ad G A cells slots Q pc lv (.ref (ad 30 i) :: st) M :=
  V_get (k := 48) C hg wF_30 rfl (by decide) inX10 rfl qf_X10_77 rfl hd kk
theorem qf_X10_80 : Cond.fieldLink "CostsAgeModel" 80 "CostsAgeModel" "buyersKept" "I" ∈ lw_good := tg (tb 821 (by decide +kernel)) rfl
theorem get_X10_80 (C : CX p s m args c cc nL "CostsAgeModel" D cy ad G A R d cells slots) {i : Nat} (hg : wG G 30 i) (hd : decode cc pc = .ok (.getfield 80, 3)) (kk : V p l e R s m args below meth c nL D cy ad G A cells slots Q (pc + 3) lv (.int (M.1 30 i 49) :: st) M) : V p l e R s m args below meth c nL D cy ad G A cells slots Q pc lv (.ref (ad 30 i) :: st) M :=
  V_get (k := 49) C hg wF_30 rfl (by decide) inX10 rfl qf_X10_80 rfl hd kk
theorem qf_X10_83 : Cond.fieldLink "CostsAgeModel" 83 "CostsAgeModel" "isThere" "[Z" ∈ lw_good := tg (tb 829 (by decide +kernel)) rfl
theorem get_X10_83 (C : CX p s m args c cc nL "CostsAgeModel" D cy ad G A R d cells slots) {i : Nat} (hg : wG G 30 i) (hd : decode cc pc = .ok (.getfield 83, 3)) (kk : V p l e R s m args below meth c nL D cy ad G A cells slots Q (pc + 3) lv (.ref (ad 52 0) :: st) M) : V p l e R s m args below meth c nL D cy ad G A cells slots Q pc lv (.ref (ad 30 i) :: st) M :=
  V_get (k := 57) C hg wF_30 rfl (by decide) inX10 rfl qf_X10_83 rfl hd kk
theorem qf_X10_87 : Cond.fieldLink "CostsAgeModel" 87 "CostsAgeModel" "sorts" "[I" ∈ lw_good := tg (tb 830 (by decide +kernel)) rfl
theorem get_X10_87 (C : CX p s m args c cc nL "CostsAgeModel" D cy ad G A R d cells slots) {i : Nat} (hg : wG G 30 i) (hd : decode cc pc = .ok (.getfield 87, 3)) (kk : V p l e R s m args below meth c nL D cy ad G A cells slots Q (pc + 3) lv (.ref (ad 53 0) :: st) M) : V p l e R s m args below meth c nL D cy ad G A cells slots Q pc lv (.ref (ad 30 i) :: st) M :=
  V_get (k := 58) C hg wF_30 rfl (by decide) inX10 rfl qf_X10_87 rfl hd kk
theorem qf_X10_90 : Cond.fieldLink "CostsAgeModel" 90 "CostsAgeModel" "sheetSize" "[I" ∈ lw_good := tg (tb 831 (by decide +kernel)) rfl
theorem get_X10_90 (C : CX p s m args c cc nL "CostsAgeModel" D cy ad G A R d cells slots) {i : Nat} (hg : wG G 30 i) (hd : decode cc pc = .ok (.getfield 90, 3)) (kk : V p l e R s m args below meth c nL D cy ad G A cells slots Q (pc + 3) lv (.ref (ad 54 0) :: st) M) : V p l e R s m args below meth c nL D cy ad G A cells slots Q pc lv (.ref (ad 30 i) :: st) M :=
  V_get (k := 59) C hg wF_30 rfl (by decide) inX10 rfl qf_X10_90 rfl hd kk
theorem qf_X10_93 : Cond.fieldLink "CostsAgeModel" 93 "CostsAgeModel" "items" "[I" ∈ lw_good := tg (tb 832 (by decide +kernel)) rfl
theorem get_X10_93 (C : CX p s m args c cc nL "CostsAgeModel" D cy ad G A R d cells slots) {i : Nat} (hg : wG G 30 i) (hd : decode cc pc = .ok (.getfield 93, 3)) (kk : V p l e R s m args below meth c nL D cy ad G A cells slots Q (pc + 3) lv (.ref (ad 55 0) :: st) M) : V p l e R s m args below meth c nL D cy ad G A cells slots Q pc lv (.ref (ad 30 i) :: st) M :=
  V_get (k := 60) C hg wF_30 rfl (by decide) inX10 rfl qf_X10_93 rfl hd kk
theorem qf_X10_100 : Cond.fieldLink "CostsAgeModel" 100 "CostsAgeModel" "textCount" "I" ∈ lw_good := tg (tb 775 (by decide +kernel)) rfl
theorem get_X10_100 (C : CX p s m args c cc nL "CostsAgeModel" D cy ad G A R d cells slots) {i : Nat} (hg : wG G 30 i) (hd : decode cc pc = .ok (.getfield 100, 3)) (kk : V p l e R s m args below meth c nL D cy ad G A cells slots Q (pc + 3) lv (.int (M.1 30 i 3) :: st) M) : V p l e R s m args below meth c nL D cy ad G A cells slots Q pc lv (.ref (ad 30 i) :: st) M :=
  V_get (k := 3) C hg wF_30 rfl (by decide) inX10 rfl qf_X10_100 rfl hd kk
theorem qf_X10_103 : Cond.fieldLink "CostsAgeModel" 103 "CostsAgeModel" "buyers" "I" ∈ lw_good := tg (tb 784 (by decide +kernel)) rfl
theorem get_X10_103 (C : CX p s m args c cc nL "CostsAgeModel" D cy ad G A R d cells slots) {i : Nat} (hg : wG G 30 i) (hd : decode cc pc = .ok (.getfield 103, 3)) (kk : V p l e R s m args below meth c nL D cy ad G A cells slots Q (pc + 3) lv (.int (M.1 30 i 12) :: st) M) : V p l e R s m args below meth c nL D cy ad G A cells slots Q pc lv (.ref (ad 30 i) :: st) M :=
  V_get (k := 12) C hg wF_30 rfl (by decide) inX10 rfl qf_X10_103 rfl hd kk
theorem qf_X10_110 : Cond.fieldLink "CostsAgeModel" 110 "CostsAgeModel" "many" "I" ∈ lw_good := tg (tb 788 (by decide +kernel)) rfl
theorem get_X10_110 (C : CX p s m args c cc nL "CostsAgeModel" D cy ad G A R d cells slots) {i : Nat} (hg : wG G 30 i) (hd : decode cc pc = .ok (.getfield 110, 3)) (kk : V p l e R s m args below meth c nL D cy ad G A cells slots Q (pc + 3) lv (.int (M.1 30 i 16) :: st) M) : V p l e R s m args below meth c nL D cy ad G A cells slots Q pc lv (.ref (ad 30 i) :: st) M :=
  V_get (k := 16) C hg wF_30 rfl (by decide) inX10 rfl qf_X10_110 rfl hd kk
theorem qf_X10_113 : Cond.fieldLink "CostsAgeModel" 113 "CostsAgeModel" "bought" "I" ∈ lw_good := tg (tb 789 (by decide +kernel)) rfl
theorem get_X10_113 (C : CX p s m args c cc nL "CostsAgeModel" D cy ad G A R d cells slots) {i : Nat} (hg : wG G 30 i) (hd : decode cc pc = .ok (.getfield 113, 3)) (kk : V p l e R s m args below meth c nL D cy ad G A cells slots Q (pc + 3) lv (.int (M.1 30 i 17) :: st) M) : V p l e R s m args below meth c nL D cy ad G A cells slots Q pc lv (.ref (ad 30 i) :: st) M :=
  V_get (k := 17) C hg wF_30 rfl (by decide) inX10 rfl qf_X10_113 rfl hd kk
theorem qf_X10_141 : Cond.fieldLink "CostsAgeModel" 141 "CostsAgeModel" "week" "I" ∈ lw_good := tg (tb 790 (by decide +kernel)) rfl
theorem get_X10_141 (C : CX p s m args c cc nL "CostsAgeModel" D cy ad G A R d cells slots) {i : Nat} (hg : wG G 30 i) (hd : decode cc pc = .ok (.getfield 141, 3)) (kk : V p l e R s m args below meth c nL D cy ad G A cells slots Q (pc + 3) lv (.int (M.1 30 i 18) :: st) M) : V p l e R s m args below meth c nL D cy ad G A cells slots Q pc lv (.ref (ad 30 i) :: st) M :=
  V_get (k := 18) C hg wF_30 rfl (by decide) inX10 rfl qf_X10_141 rfl hd kk
theorem qf_X10_154 : Cond.fieldLink "CostsAgeModel" 154 "CostsAgeModel" "taped" "I" ∈ lw_good := tg (tb 778 (by decide +kernel)) rfl
theorem get_X10_154 (C : CX p s m args c cc nL "CostsAgeModel" D cy ad G A R d cells slots) {i : Nat} (hg : wG G 30 i) (hd : decode cc pc = .ok (.getfield 154, 3)) (kk : V p l e R s m args below meth c nL D cy ad G A cells slots Q (pc + 3) lv (.int (M.1 30 i 6) :: st) M) : V p l e R s m args below meth c nL D cy ad G A cells slots Q pc lv (.ref (ad 30 i) :: st) M :=
  V_get (k := 6) C hg wF_30 rfl (by decide) inX10 rfl qf_X10_154 rfl hd kk
theorem qf_X10_157 : Cond.fieldLink "CostsAgeModel" 157 "CostsAgeModel" "size" "I" ∈ lw_good := tg (tb 801 (by decide +kernel)) rfl
theorem get_X10_157 (C : CX p s m args c cc nL "CostsAgeModel" D cy ad G A R d cells slots) {i : Nat} (hg : wG G 30 i) (hd : decode cc pc = .ok (.getfield 157, 3)) (kk : V p l e R s m args below meth c nL D cy ad G A cells slots Q (pc + 3) lv (.int (M.1 30 i 29) :: st) M) : V p l e R s m args below meth c nL D cy ad G A cells slots Q pc lv (.ref (ad 30 i) :: st) M :=
  V_get (k := 29) C hg wF_30 rfl (by decide) inX10 rfl qf_X10_157 rfl hd kk
theorem qf_X10_160 : Cond.fieldLink "CostsAgeModel" 160 "CostsAgeModel" "from" "I" ∈ lw_good := tg (tb 800 (by decide +kernel)) rfl
theorem get_X10_160 (C : CX p s m args c cc nL "CostsAgeModel" D cy ad G A R d cells slots) {i : Nat} (hg : wG G 30 i) (hd : decode cc pc = .ok (.getfield 160, 3)) (kk : V p l e R s m args below meth c nL D cy ad G A cells slots Q (pc + 3) lv (.int (M.1 30 i 28) :: st) M) : V p l e R s m args below meth c nL D cy ad G A cells slots Q pc lv (.ref (ad 30 i) :: st) M :=
  V_get (k := 28) C hg wF_30 rfl (by decide) inX10 rfl qf_X10_160 rfl hd kk
theorem qf_X10_163 : Cond.fieldLink "CostsAgeModel" 163 "CostsAgeModel" "here" "I" ∈ lw_good := tg (tb 802 (by decide +kernel)) rfl
theorem get_X10_163 (C : CX p s m args c cc nL "CostsAgeModel" D cy ad G A R d cells slots) {i : Nat} (hg : wG G 30 i) (hd : decode cc pc = .ok (.getfield 163, 3)) (kk : V p l e R s m args below meth c nL D cy ad G A cells slots Q (pc + 3) lv (.int (M.1 30 i 30) :: st) M) : V p l e R s m args below meth c nL D cy ad G A cells slots Q pc lv (.ref (ad 30 i) :: st) M :=
  V_get (k := 30) C hg wF_30 rfl (by decide) inX10 rfl qf_X10_163 rfl hd kk
theorem qf_X10_169 : Cond.fieldLink "CostsAgeModel" 169 "CostsAgeModel" "tokenAt" "I" ∈ lw_good := tg (tb 804 (by decide +kernel)) rfl
theorem get_X10_169 (C : CX p s m args c cc nL "CostsAgeModel" D cy ad G A R d cells slots) {i : Nat} (hg : wG G 30 i) (hd : decode cc pc = .ok (.getfield 169, 3)) (kk : V p l e R s m args below meth c nL D cy ad G A cells slots Q (pc + 3) lv (.int (M.1 30 i 32) :: st) M) : V p l e R s m args below meth c nL D cy ad G A cells slots Q pc lv (.ref (ad 30 i) :: st) M :=
  V_get (k := 32) C hg wF_30 rfl (by decide) inX10 rfl qf_X10_169 rfl hd kk
theorem qf_X10_172 : Cond.fieldLink "CostsAgeModel" 172 "CostsAgeModel" "token" "I" ∈ lw_good := tg (tb 803 (by decide +kernel)) rfl
theorem get_X10_172 (C : CX p s m args c cc nL "CostsAgeModel" D cy ad G A R d cells slots) {i : Nat} (hg : wG G 30 i) (hd : decode cc pc = .ok (.getfield 172, 3)) (kk : V p l e R s m args below meth c nL D cy ad G A cells slots Q (pc + 3) lv (.int (M.1 30 i 31) :: st) M) : V p l e R s m args below meth c nL D cy ad G A cells slots Q pc lv (.ref (ad 30 i) :: st) M :=
  V_get (k := 31) C hg wF_30 rfl (by decide) inX10 rfl qf_X10_172 rfl hd kk
theorem qf_X10_183 : Cond.fieldLink "CostsAgeModel" 183 "CostsAgeModel" "tokenWorth" "J" ∈ lw_good := tg (tb 805 (by decide +kernel)) rfl
theorem get_X10_183 (C : CX p s m args c cc nL "CostsAgeModel" D cy ad G A R d cells slots) {i : Nat} (hg : wG G 30 i) (hd : decode cc pc = .ok (.getfield 183, 3)) (kk : V p l e R s m args below meth c nL D cy ad G A cells slots Q (pc + 3) lv (.long M.2 :: st) M) : V p l e R s m args below meth c nL D cy ad G A cells slots Q pc lv (.ref (ad 30 i) :: st) M :=
  V_get (k := 33) C hg wF_30 rfl (by decide) inX10 rfl qf_X10_183 rfl hd kk
theorem qf_X10_187 : Cond.fieldLink "CostsAgeModel" 187 "CostsAgeModel" "bad" "Z" ∈ lw_good := tg (tb 807 (by decide +kernel)) rfl
theorem get_X10_187 (C : CX p s m args c cc nL "CostsAgeModel" D cy ad G A R d cells slots) {i : Nat} (hg : wG G 30 i) (hd : decode cc pc = .ok (.getfield 187, 3)) (kk : V p l e R s m args below meth c nL D cy ad G A cells slots Q (pc + 3) lv (.int (M.1 30 i 35) :: st) M) : V p l e R s m args below meth c nL D cy ad G A cells slots Q pc lv (.ref (ad 30 i) :: st) M :=
  V_get (k := 35) C hg wF_30 rfl (by decide) inX10 rfl qf_X10_187 rfl hd kk
theorem qf_X10_191 : Cond.fieldLink "CostsAgeModel" 191 "CostsAgeModel" "fault" "I" ∈ lw_good := tg (tb 808 (by decide +kernel)) rfl
theorem get_X10_191 (C : CX p s m args c cc nL "CostsAgeModel" D cy ad G A R d cells slots) {i : Nat} (hg : wG G 30 i) (hd : decode cc pc = .ok (.getfield 191, 3)) (kk : V p l e R s m args below meth c nL D cy ad G A cells slots Q (pc + 3) lv (.int (M.1 30 i 36) :: st) M) : V p l e R s m args below meth c nL D cy ad G A cells slots Q pc lv (.ref (ad 30 i) :: st) M :=
  V_get (k := 36) C hg wF_30 rfl (by decide) inX10 rfl qf_X10_191 rfl hd kk
theorem qf_X10_198 : Cond.fieldLink "CostsAgeModel" 198 "CostsAgeModel" "open" "I" ∈ lw_good := tg (tb 806 (by decide +kernel)) rfl
theorem get_X10_198 (C : CX p s m args c cc nL "CostsAgeModel" D cy ad G A R d cells slots) {i : Nat} (hg : wG G 30 i) (hd : decode cc pc = .ok (.getfield 198, 3)) (kk : V p l e R s m args below meth c nL D cy ad G A cells slots Q (pc + 3) lv (.int (M.1 30 i 34) :: st) M) : V p l e R s m args below meth c nL D cy ad G A cells slots Q pc lv (.ref (ad 30 i) :: st) M :=
  V_get (k := 34) C hg wF_30 rfl (by decide) inX10 rfl qf_X10_198 rfl hd kk
theorem qf_X10_211 : Cond.fieldLink "CostsAgeModel" 211 "CostsAgeModel" "ofAge" "I" ∈ lw_good := tg (tb 794 (by decide +kernel)) rfl
theorem get_X10_211 (C : CX p s m args c cc nL "CostsAgeModel" D cy ad G A R d cells slots) {i : Nat} (hg : wG G 30 i) (hd : decode cc pc = .ok (.getfield 211, 3)) (kk : V p l e R s m args below meth c nL D cy ad G A cells slots Q (pc + 3) lv (.int (M.1 30 i 22) :: st) M) : V p l e R s m args below meth c nL D cy ad G A cells slots Q pc lv (.ref (ad 30 i) :: st) M :=
  V_get (k := 22) C hg wF_30 rfl (by decide) inX10 rfl qf_X10_211 rfl hd kk
theorem qf_X10_214 : Cond.fieldLink "CostsAgeModel" 214 "CostsAgeModel" "ofSize" "I" ∈ lw_good := tg (tb 795 (by decide +kernel)) rfl
theorem get_X10_214 (C : CX p s m args c cc nL "CostsAgeModel" D cy ad G A R d cells slots) {i : Nat} (hg : wG G 30 i) (hd : decode cc pc = .ok (.getfield 214, 3)) (kk : V p l e R s m args below meth c nL D cy ad G A cells slots Q (pc + 3) lv (.int (M.1 30 i 23) :: st) M) : V p l e R s m args below meth c nL D cy ad G A cells slots Q pc lv (.ref (ad 30 i) :: st) M :=
  V_get (k := 23) C hg wF_30 rfl (by decide) inX10 rfl qf_X10_214 rfl hd kk
theorem qf_X10_217 : Cond.fieldLink "CostsAgeModel" 217 "CostsAgeModel" "ofValue" "I" ∈ lw_good := tg (tb 796 (by decide +kernel)) rfl
theorem get_X10_217 (C : CX p s m args c cc nL "CostsAgeModel" D cy ad G A R d cells slots) {i : Nat} (hg : wG G 30 i) (hd : decode cc pc = .ok (.getfield 217, 3)) (kk : V p l e R s m args below meth c nL D cy ad G A cells slots Q (pc + 3) lv (.int (M.1 30 i 24) :: st) M) : V p l e R s m args below meth c nL D cy ad G A cells slots Q pc lv (.ref (ad 30 i) :: st) M :=
  V_get (k := 24) C hg wF_30 rfl (by decide) inX10 rfl qf_X10_217 rfl hd kk
theorem qf_X10_220 : Cond.fieldLink "CostsAgeModel" 220 "CostsAgeModel" "ofWeek" "I" ∈ lw_good := tg (tb 797 (by decide +kernel)) rfl
theorem get_X10_220 (C : CX p s m args c cc nL "CostsAgeModel" D cy ad G A R d cells slots) {i : Nat} (hg : wG G 30 i) (hd : decode cc pc = .ok (.getfield 220, 3)) (kk : V p l e R s m args below meth c nL D cy ad G A cells slots Q (pc + 3) lv (.int (M.1 30 i 25) :: st) M) : V p l e R s m args below meth c nL D cy ad G A cells slots Q pc lv (.ref (ad 30 i) :: st) M :=
  V_get (k := 25) C hg wF_30 rfl (by decide) inX10 rfl qf_X10_220 rfl hd kk
theorem qf_X10_223 : Cond.fieldLink "CostsAgeModel" 223 "CostsAgeModel" "ofFee" "I" ∈ lw_good := tg (tb 798 (by decide +kernel)) rfl
theorem get_X10_223 (C : CX p s m args c cc nL "CostsAgeModel" D cy ad G A R d cells slots) {i : Nat} (hg : wG G 30 i) (hd : decode cc pc = .ok (.getfield 223, 3)) (kk : V p l e R s m args below meth c nL D cy ad G A cells slots Q (pc + 3) lv (.int (M.1 30 i 26) :: st) M) : V p l e R s m args below meth c nL D cy ad G A cells slots Q pc lv (.ref (ad 30 i) :: st) M :=
  V_get (k := 26) C hg wF_30 rfl (by decide) inX10 rfl qf_X10_223 rfl hd kk
theorem qf_X10_226 : Cond.fieldLink "CostsAgeModel" 226 "CostsAgeModel" "ofOwn" "I" ∈ lw_good := tg (tb 799 (by decide +kernel)) rfl
theorem get_X10_226 (C : CX p s m args c cc nL "CostsAgeModel" D cy ad G A R d cells slots) {i : Nat} (hg : wG G 30 i) (hd : decode cc pc = .ok (.getfield 226, 3)) (kk : V p l e R s m args below meth c nL D cy ad G A cells slots Q (pc + 3) lv (.int (M.1 30 i 27) :: st) M) : V p l e R s m args below meth c nL D cy ad G A cells slots Q pc lv (.ref (ad 30 i) :: st) M :=
  V_get (k := 27) C hg wF_30 rfl (by decide) inX10 rfl qf_X10_226 rfl hd kk
theorem qf_X10_270 : Cond.fieldLink "CostsAgeModel" 270 "CostsAgeModel" "rule" "I" ∈ lw_good := tg (tb 776 (by decide +kernel)) rfl
theorem get_X10_270 (C : CX p s m args c cc nL "CostsAgeModel" D cy ad G A R d cells slots) {i : Nat} (hg : wG G 30 i) (hd : decode cc pc = .ok (.getfield 270, 3)) (kk : V p l e R s m args below meth c nL D cy ad G A cells slots Q (pc + 3) lv (.int (M.1 30 i 4) :: st) M) : V p l e R s m args below meth c nL D cy ad G A cells slots Q pc lv (.ref (ad 30 i) :: st) M :=
  V_get (k := 4) C hg wF_30 rfl (by decide) inX10 rfl qf_X10_270 rfl hd kk
theorem qf_X10_300 : Cond.fieldLink "CostsAgeModel" 300 "CostsAgeModel" "bestCost" "I" ∈ lw_good := tg (tb 809 (by decide +kernel)) rfl
theorem get_X10_300 (C : CX p s m args c cc nL "CostsAgeModel" D cy ad G A R d cells slots) {i : Nat} (hg : wG G 30 i) (hd : decode cc pc = .ok (.getfield 300, 3)) (kk : V p l e R s m args below meth c nL D cy ad G A cells slots Q (pc + 3) lv (.int (M.1 30 i 37) :: st) M) : V p l e R s m args below meth c nL D cy ad G A cells slots Q pc lv (.ref (ad 30 i) :: st) M :=
  V_get (k := 37) C hg wF_30 rfl (by decide) inX10 rfl qf_X10_300 rfl hd kk
theorem qf_X10_306 : Cond.fieldLink "CostsAgeModel" 306 "CostsAgeModel" "leastCost" "I" ∈ lw_good := tg (tb 810 (by decide +kernel)) rfl
theorem get_X10_306 (C : CX p s m args c cc nL "CostsAgeModel" D cy ad G A R d cells slots) {i : Nat} (hg : wG G 30 i) (hd : decode cc pc = .ok (.getfield 306, 3)) (kk : V p l e R s m args below meth c nL D cy ad G A cells slots Q (pc + 3) lv (.int (M.1 30 i 38) :: st) M) : V p l e R s m args below meth c nL D cy ad G A cells slots Q pc lv (.ref (ad 30 i) :: st) M :=
  V_get (k := 38) C hg wF_30 rfl (by decide) inX10 rfl qf_X10_306 rfl hd kk
theorem qf_X10_312 : Cond.fieldLink "CostsAgeModel" 312 "CostsAgeModel" "till" "I" ∈ lw_good := tg (tb 792 (by decide +kernel)) rfl
theorem get_X10_312 (C : CX p s m args c cc nL "CostsAgeModel" D cy ad G A R d cells slots) {i : Nat} (hg : wG G 30 i) (hd : decode cc pc = .ok (.getfield 312, 3)) (kk : V p l e R s m args below meth c nL D cy ad G A cells slots Q (pc + 3) lv (.int (M.1 30 i 20) :: st) M) : V p l e R s m args below meth c nL D cy ad G A cells slots Q pc lv (.ref (ad 30 i) :: st) M :=
  V_get (k := 20) C hg wF_30 rfl (by decide) inX10 rfl qf_X10_312 rfl hd kk
theorem qf_X10_315 : Cond.fieldLink "CostsAgeModel" 315 "CostsAgeModel" "yearNow" "I" ∈ lw_good := tg (tb 791 (by decide +kernel)) rfl
theorem get_X10_315 (C : CX p s m args c cc nL "CostsAgeModel" D cy ad G A R d cells slots) {i : Nat} (hg : wG G 30 i) (hd : decode cc pc = .ok (.getfield 315, 3)) (kk : V p l e R s m args below meth c nL D cy ad G A cells slots Q (pc + 3) lv (.int (M.1 30 i 19) :: st) M) : V p l e R s m args below meth c nL D cy ad G A cells slots Q pc lv (.ref (ad 30 i) :: st) M :=
  V_get (k := 19) C hg wF_30 rfl (by decide) inX10 rfl qf_X10_315 rfl hd kk
theorem qf_X10_330 : Cond.fieldLink "CostsAgeModel" 330 "CostsAgeModel" "manyKept" "I" ∈ lw_good := tg (tb 822 (by decide +kernel)) rfl
theorem get_X10_330 (C : CX p s m args c cc nL "CostsAgeModel" D cy ad G A R d cells slots) {i : Nat} (hg : wG G 30 i) (hd : decode cc pc = .ok (.getfield 330, 3)) (kk : V p l e R s m args below meth c nL D cy ad G A cells slots Q (pc + 3) lv (.int (M.1 30 i 50) :: st) M) : V p l e R s m args below meth c nL D cy ad G A cells slots Q pc lv (.ref (ad 30 i) :: st) M :=
  V_get (k := 50) C hg wF_30 rfl (by decide) inX10 rfl qf_X10_330 rfl hd kk
theorem qf_X10_333 : Cond.fieldLink "CostsAgeModel" 333 "CostsAgeModel" "boughtKept" "I" ∈ lw_good := tg (tb 823 (by decide +kernel)) rfl
theorem get_X10_333 (C : CX p s m args c cc nL "CostsAgeModel" D cy ad G A R d cells slots) {i : Nat} (hg : wG G 30 i) (hd : decode cc pc = .ok (.getfield 333, 3)) (kk : V p l e R s m args below meth c nL D cy ad G A cells slots Q (pc + 3) lv (.int (M.1 30 i 51) :: st) M) : V p l e R s m args below meth c nL D cy ad G A cells slots Q pc lv (.ref (ad 30 i) :: st) M :=
  V_get (k := 51) C hg wF_30 rfl (by decide) inX10 rfl qf_X10_333 rfl hd kk
theorem qf_X10_336 : Cond.fieldLink "CostsAgeModel" 336 "CostsAgeModel" "weekKept" "I" ∈ lw_good := tg (tb 824 (by decide +kernel)) rfl
theorem get_X10_336 (C : CX p s m args c cc nL "CostsAgeModel" D cy ad G A R d cells slots) {i : Nat} (hg : wG G 30 i) (hd : decode cc pc = .ok (.getfield 336, 3)) (kk : V p l e R s m args below meth c nL D cy ad G A cells slots Q (pc + 3) lv (.int (M.1 30 i 52) :: st) M) : V p l e R s m args below meth c nL D cy ad G A cells slots Q pc lv (.ref (ad 30 i) :: st) M :=
  V_get (k := 52) C hg wF_30 rfl (by decide) inX10 rfl qf_X10_336 rfl hd kk
theorem qf_X10_339 : Cond.fieldLink "CostsAgeModel" 339 "CostsAgeModel" "yearKept" "I" ∈ lw_good := tg (tb 825 (by decide +kernel)) rfl
theorem get_X10_339 (C : CX p s m args c cc nL "CostsAgeModel" D cy ad G A R d cells slots) {i : Nat} (hg : wG G 30 i) (hd : decode cc pc = .ok (.getfield 339, 3)) (kk : V p l e R s m args below meth c nL D cy ad G A cells slots Q (pc + 3) lv (.int (M.1 30 i 53) :: st) M) : V p l e R s m args below meth c nL D cy ad G A cells slots Q pc lv (.ref (ad 30 i) :: st) M :=
  V_get (k := 53) C hg wF_30 rfl (by decide) inX10 rfl qf_X10_339 rfl hd kk
theorem qf_X10_342 : Cond.fieldLink "CostsAgeModel" 342 "CostsAgeModel" "tillKept" "I" ∈ lw_good := tg (tb 826 (by decide +kernel)) rfl
theorem get_X10_342 (C : CX p s m args c cc nL "CostsAgeModel" D cy ad G A R d cells slots) {i : Nat} (hg : wG G 30 i) (hd : decode cc pc = .ok (.getfield 342, 3)) (kk : V p l e R s m args below meth c nL D cy ad G A cells slots Q (pc + 3) lv (.int (M.1 30 i 54) :: st) M) : V p l e R s m args below meth c nL D cy ad G A cells slots Q pc lv (.ref (ad 30 i) :: st) M :=
  V_get (k := 54) C hg wF_30 rfl (by decide) inX10 rfl qf_X10_342 rfl hd kk
theorem qf_X10_345 : Cond.fieldLink "CostsAgeModel" 345 "CostsAgeModel" "carryKept" "I" ∈ lw_good := tg (tb 827 (by decide +kernel)) rfl
theorem get_X10_345 (C : CX p s m args c cc nL "CostsAgeModel" D cy ad G A R d cells slots) {i : Nat} (hg : wG G 30 i) (hd : decode cc pc = .ok (.getfield 345, 3)) (kk : V p l e R s m args below meth c nL D cy ad G A cells slots Q (pc + 3) lv (.int (M.1 30 i 55) :: st) M) : V p l e R s m args below meth c nL D cy ad G A cells slots Q pc lv (.ref (ad 30 i) :: st) M :=
  V_get (k := 55) C hg wF_30 rfl (by decide) inX10 rfl qf_X10_345 rfl hd kk
theorem qf_X10_348 : Cond.fieldLink "CostsAgeModel" 348 "CostsAgeModel" "ruleKept" "I" ∈ lw_good := tg (tb 828 (by decide +kernel)) rfl
theorem get_X10_348 (C : CX p s m args c cc nL "CostsAgeModel" D cy ad G A R d cells slots) {i : Nat} (hg : wG G 30 i) (hd : decode cc pc = .ok (.getfield 348, 3)) (kk : V p l e R s m args below meth c nL D cy ad G A cells slots Q (pc + 3) lv (.int (M.1 30 i 56) :: st) M) : V p l e R s m args below meth c nL D cy ad G A cells slots Q pc lv (.ref (ad 30 i) :: st) M :=
  V_get (k := 56) C hg wF_30 rfl (by decide) inX10 rfl qf_X10_348 rfl hd kk
theorem put_X9_75 (C : CX p s m args c cc nL "CostsAge" D cy ad G A R d cells slots) {i : Nat} {x : Int32} (hg : wG G 26 i) (hd : decode cc pc = .ok (.putfield 75, 3)) (kk : V p l e R s m args below meth c nL D cy ad G A cells slots Q (pc + 3) lv st (mset M 26 i 7 x)) : V p l e R s m args below meth c nL D cy ad G A cells slots Q pc lv (.int x :: .ref (ad 26 i) :: st) M :=
  V_putN (host := "CostsAge") (k := 7) (ty := .int) C hg wF_26 rfl (by decide) inX6 rfl tyX6 tyX6_ok nmX6 rfl rfl rfl rfl (Nat.le_of_ble_eq_true rfl) qf_X9_75 (by rw [mrow_self]; exact wF_26) mrow_oth hd kk
theorem put_X9_99 (C : CX p s m args c cc nL "CostsAge" D cy ad G A R d cells slots) {i : Nat} {x : Int32} (hg : wG G 0 i) (hd : decode cc pc = .ok (.putfield 99, 3)) (kk : V p l e R s m args below meth c nL D cy ad G A cells slots Q (pc + 3) lv st (mset M 0 i 13 x)) : V p l e R s m args below meth c nL D cy ad G A cells slots Q pc lv (.int x :: .ref (ad 0 i) :: st) M :=
  V_put (host := "") (k := 13) (ty := .int) C hg wF_0 rfl (by decide) inX9 rfl tyX9 tyX9_ok nmX9 rfl rfl rfl rfl (Nat.le_of_ble_eq_true rfl) qf_X9_99 (by rw [mrow_self]; exact wF_0) mrow_oth hd kk
theorem put_X9_106 (C : CX p s m args c cc nL "CostsAge" D cy ad G A R d cells slots) {i : Nat} {x : Int32} (hg : wG G 0 i) (hd : decode cc pc = .ok (.putfield 106, 3)) (kk : V p l e R s m args below meth c nL D cy ad G A cells slots Q (pc + 3) lv st (mset M 0 i 11 x)) : V p l e R s m args below meth c nL D cy ad G A cells slots Q pc lv (.int x :: .ref (ad 0 i) :: st) M :=
  V_put (host := "") (k := 11) (ty := .int) C hg wF_0 rfl (by decide) inX9 rfl tyX9 tyX9_ok nmX9 rfl rfl rfl rfl (Nat.le_of_ble_eq_true rfl) qf_X9_106 (by rw [mrow_self]; exact wF_0) mrow_oth hd kk
theorem put_X9_109 (C : CX p s m args c cc nL "CostsAge" D cy ad G A R d cells slots) {i : Nat} {x : Int32} (hg : wG G 5 i) (hd : decode cc pc = .ok (.putfield 109, 3)) (kk : V p l e R s m args below meth c nL D cy ad G A cells slots Q (pc + 3) lv st (mset M 5 i 0 x)) : V p l e R s m args below meth c nL D cy ad G A cells slots Q pc lv (.int x :: .ref (ad 5 i) :: st) M :=
  V_putN (host := "CostsAge") (k := 0) (ty := .int) C hg wF_5 rfl (by decide) inX0 rfl tyX0 tyX0_ok nmX0 rfl rfl rfl rfl (Nat.le_of_ble_eq_true rfl) qf_X9_109 (by rw [mrow_self]; exact wF_5) mrow_oth hd kk
theorem put_X9_112 (C : CX p s m args c cc nL "CostsAge" D cy ad G A R d cells slots) {i : Nat} {x : Int32} (hg : wG G 5 i) (hd : decode cc pc = .ok (.putfield 112, 3)) (kk : V p l e R s m args below meth c nL D cy ad G A cells slots Q (pc + 3) lv st (mset M 5 i 1 x)) : V p l e R s m args below meth c nL D cy ad G A cells slots Q pc lv (.int x :: .ref (ad 5 i) :: st) M :=
  V_putN (host := "CostsAge") (k := 1) (ty := .int) C hg wF_5 rfl (by decide) inX0 rfl tyX0 tyX0_ok nmX0 rfl rfl rfl rfl (Nat.le_of_ble_eq_true rfl) qf_X9_112 (by rw [mrow_self]; exact wF_5) mrow_oth hd kk
theorem put_X9_115 (C : CX p s m args c cc nL "CostsAge" D cy ad G A R d cells slots) {i : Nat} {x : Int32} (hg : wG G 5 i) (hd : decode cc pc = .ok (.putfield 115, 3)) (kk : V p l e R s m args below meth c nL D cy ad G A cells slots Q (pc + 3) lv st (mset M 5 i 2 x)) : V p l e R s m args below meth c nL D cy ad G A cells slots Q pc lv (.int x :: .ref (ad 5 i) :: st) M :=
  V_putN (host := "CostsAge") (k := 2) (ty := .int) C hg wF_5 rfl (by decide) inX0 rfl tyX0 tyX0_ok nmX0 rfl rfl rfl rfl (Nat.le_of_ble_eq_true rfl) qf_X9_115 (by rw [mrow_self]; exact wF_5) mrow_oth hd kk
theorem put_X9_124 (C : CX p s m args c cc nL "CostsAge" D cy ad G A R d cells slots) {i : Nat} {x : Int32} (hg : wG G 0 i) (hd : decode cc pc = .ok (.putfield 124, 3)) (kk : V p l e R s m args below meth c nL D cy ad G A cells slots Q (pc + 3) lv st (mset M 0 i 12 x)) : V p l e R s m args below meth c nL D cy ad G A cells slots Q pc lv (.int x :: .ref (ad 0 i) :: st) M :=
  V_put (host := "") (k := 12) (ty := .int) C hg wF_0 rfl (by decide) inX9 rfl tyX9 tyX9_ok nmX9 rfl rfl rfl rfl (Nat.le_of_ble_eq_true rfl) qf_X9_124 (by rw [mrow_self]; exact wF_0) mrow_oth hd kk
theorem put_X9_127 (C : CX p s m args c cc nL "CostsAge" D cy ad G A R d cells slots) {i : Nat} {x : Int32} (hg : wG G 6 i) (hd : decode cc pc = .ok (.putfield 127, 3)) (kk : V p l e R s m args below meth c nL D cy ad G A cells slots Q (pc + 3) lv st (mset M 6 i 0 x)) : V p l e R s m args below meth c nL D cy ad G A cells slots Q pc lv (.int x :: .ref (ad 6 i) :: st) M :=
  V_putN (host := "CostsAge") (k := 0) (ty := .int) C hg wF_6 rfl (by decide) inX8 rfl tyX8 tyX8_ok nmX8 rfl rfl rfl rfl (Nat.le_of_ble_eq_true rfl) qf_X9_127 (by rw [mrow_self]; exact wF_6) mrow_oth hd kk
theorem put_X9_130 (C : CX p s m args c cc nL "CostsAge" D cy ad G A R d cells slots) {i : Nat} {x : Int32} (hg : wG G 6 i) (hd : decode cc pc = .ok (.putfield 130, 3)) (kk : V p l e R s m args below meth c nL D cy ad G A cells slots Q (pc + 3) lv st (mset M 6 i 1 x)) : V p l e R s m args below meth c nL D cy ad G A cells slots Q pc lv (.int x :: .ref (ad 6 i) :: st) M :=
  V_putN (host := "CostsAge") (k := 1) (ty := .int) C hg wF_6 rfl (by decide) inX8 rfl tyX8 tyX8_ok nmX8 rfl rfl rfl rfl (Nat.le_of_ble_eq_true rfl) qf_X9_130 (by rw [mrow_self]; exact wF_6) mrow_oth hd kk
theorem put_X9_160 (C : CX p s m args c cc nL "CostsAge" D cy ad G A R d cells slots) {i : Nat} {x : Int32} (hg : wG G 26 i) (hd : decode cc pc = .ok (.putfield 160, 3)) (kk : V p l e R s m args below meth c nL D cy ad G A cells slots Q (pc + 3) lv st (mset M 26 i 4 x)) : V p l e R s m args below meth c nL D cy ad G A cells slots Q pc lv (.int x :: .ref (ad 26 i) :: st) M :=
  V_putN (host := "CostsAge") (k := 4) (ty := .int) C hg wF_26 rfl (by decide) inX6 rfl tyX6 tyX6_ok nmX6 rfl rfl rfl rfl (Nat.le_of_ble_eq_true rfl) qf_X9_160 (by rw [mrow_self]; exact wF_26) mrow_oth hd kk
theorem put_X9_169 (C : CX p s m args c cc nL "CostsAge" D cy ad G A R d cells slots) {i : Nat} {x : Int32} (hg : wG G 26 i) (hd : decode cc pc = .ok (.putfield 169, 3)) (kk : V p l e R s m args below meth c nL D cy ad G A cells slots Q (pc + 3) lv st (mset M 26 i 3 x)) : V p l e R s m args below meth c nL D cy ad G A cells slots Q pc lv (.int x :: .ref (ad 26 i) :: st) M :=
  V_putN (host := "CostsAge") (k := 3) (ty := .int) C hg wF_26 rfl (by decide) inX6 rfl tyX6 tyX6_ok nmX6 rfl rfl rfl rfl (Nat.le_of_ble_eq_true rfl) qf_X9_169 (by rw [mrow_self]; exact wF_26) mrow_oth hd kk
theorem put_X9_173 (C : CX p s m args c cc nL "CostsAge" D cy ad G A R d cells slots) {i : Nat} {x : Int32} (hg : wG G 26 i) (hd : decode cc pc = .ok (.putfield 173, 3)) (kk : V p l e R s m args below meth c nL D cy ad G A cells slots Q (pc + 3) lv st (mset M 26 i 8 x)) : V p l e R s m args below meth c nL D cy ad G A cells slots Q pc lv (.int x :: .ref (ad 26 i) :: st) M :=
  V_putN (host := "CostsAge") (k := 8) (ty := .int) C hg wF_26 rfl (by decide) inX6 rfl tyX6 tyX6_ok nmX6 rfl rfl rfl rfl (Nat.le_of_ble_eq_true rfl) qf_X9_173 (by rw [mrow_self]; exact wF_26) mrow_oth hd kk
theorem put_X9_198 (C : CX p s m args c cc nL "CostsAge" D cy ad G A R d cells slots) {i : Nat} {x : Int32} (hg : wG G 26 i) (hd : decode cc pc = .ok (.putfield 198, 3)) (kk : V p l e R s m args below meth c nL D cy ad G A cells slots Q (pc + 3) lv st (mset M 26 i 6 x)) : V p l e R s m args below meth c nL D cy ad G A cells slots Q pc lv (.int x :: .ref (ad 26 i) :: st) M :=
  V_putN (host := "CostsAge") (k := 6) (ty := .int) C hg wF_26 rfl (by decide) inX6 rfl tyX6 tyX6_ok nmX6 rfl rfl rfl rfl (Nat.le_of_ble_eq_true rfl) qf_X9_198 (by rw [mrow_self]; exact wF_26) mrow_oth hd kk
theorem put_X9_201 (C : CX p s m args c cc nL "CostsAge" D cy ad G A R d cells slots) {i : Nat} {x : Int32} (hg : wG G 26 i) (hd : decode cc pc = .ok (.putfield 201, 3)) (kk : V p l e R s m args below meth c nL D cy ad G A cells slots Q (pc + 3) lv st (mset M 26 i 5 x)) : V p l e R s m args below meth c nL D cy ad G A cells slots Q pc lv (.int x :: .ref (ad 26 i) :: st) M :=
  V_putN (host := "CostsAge") (k := 5) (ty := .int) C hg wF_26 rfl (by decide) inX6 rfl tyX6 tyX6_ok nmX6 rfl rfl rfl rfl (Nat.le_of_ble_eq_true rfl) qf_X9_201 (by rw [mrow_self]; exact wF_26) mrow_oth hd kk
theorem put_X9_331 (C : CX p s m args c cc nL "CostsAge" D cy ad G A R d cells slots) {i : Nat} {x : Int32} (hg : wG G 26 i) (hd : decode cc pc = .ok (.putfield 331, 3)) (kk : V p l e R s m args below meth c nL D cy ad G A cells slots Q (pc + 3) lv st (mset M 26 i 9 x)) : V p l e R s m args below meth c nL D cy ad G A cells slots Q pc lv (.int x :: .ref (ad 26 i) :: st) M :=
  V_putN (host := "CostsAge") (k := 9) (ty := .int) C hg wF_26 rfl (by decide) inX6 rfl tyX6 tyX6_ok nmX6 rfl rfl rfl rfl (Nat.le_of_ble_eq_true rfl) qf_X9_331 (by rw [mrow_self]; exact wF_26) mrow_oth hd kk
theorem put_X9_332 (C : CX p s m args c cc nL "CostsAge" D cy ad G A R d cells slots) {i : Nat} {x : Int32} (hg : wG G 26 i) (hd : decode cc pc = .ok (.putfield 332, 3)) (kk : V p l e R s m args below meth c nL D cy ad G A cells slots Q (pc + 3) lv st (mset M 26 i 10 x)) : V p l e R s m args below meth c nL D cy ad G A cells slots Q pc lv (.int x :: .ref (ad 26 i) :: st) M :=
  V_putN (host := "CostsAge") (k := 10) (ty := .int) C hg wF_26 rfl (by decide) inX6 rfl tyX6 tyX6_ok nmX6 rfl rfl rfl rfl (Nat.le_of_ble_eq_true rfl) qf_X9_332 (by rw [mrow_self]; exact wF_26) mrow_oth hd kk
theorem put_X9_333 (C : CX p s m args c cc nL "CostsAge" D cy ad G A R d cells slots) {i : Nat} {x : Int32} (hx : narrow .boolean (.int x) = .int x) (hx2 : fits .boolean (.int x) = true) (hg : wG G 0 i) (hd : decode cc pc = .ok (.putfield 333, 3)) (kk : V p l e R s m args below meth c nL D cy ad G A cells slots Q (pc + 3) lv st (mset M 0 i 10 x)) : V p l e R s m args below meth c nL D cy ad G A cells slots Q pc lv (.int x :: .ref (ad 0 i) :: st) M :=
  V_put (host := "") (k := 10) (ty := .boolean) C hg wF_0 rfl (by decide) inX9 rfl tyX9 tyX9_ok nmX9 rfl rfl hx hx2 (Nat.le_of_ble_eq_true rfl) qf_X9_333 (by rw [mrow_self]; exact wF_0) mrow_oth hd kk
theorem put_X0_9 (C : CX p s m args c cc nL "CostsAge$Buyer" D cy ad G A R d cells slots) {i : Nat} {x : Int32} (hg : wG G 5 i) (hd : decode cc pc = .ok (.putfield 9, 3)) (kk : V p l e R s m args below meth c nL D cy ad G A cells slots Q (pc + 3) lv st (mset M 5 i 1 x)) : V p l e R s m args below meth c nL D cy ad G A cells slots Q pc lv (.int x :: .ref (ad 5 i) :: st) M :=
  V_put (host := "") (k := 1) (ty := .int) C hg wF_5 rfl (by decide) inX0 rfl tyX0 tyX0_ok nmX0 rfl rfl rfl rfl (Nat.le_of_ble_eq_true rfl) qf_X0_9 (by rw [mrow_self]; exact wF_5) mrow_oth hd kk
theorem put_X3_15 (C : CX p s m args c cc nL "CostsAge$Reader" D cy ad G A R d cells slots) {i : Nat} {x : Int32} (hg : wG G 11 i) (hd : decode cc pc = .ok (.putfield 15, 3)) (kk : V p l e R s m args below meth c nL D cy ad G A cells slots Q (pc + 3) lv st (mset M 11 i 1 x)) : V p l e R s m args below meth c nL D cy ad G A cells slots Q pc lv (.int x :: .ref (ad 11 i) :: st) M :=
  V_put (host := "") (k := 1) (ty := .int) C hg wF_11 rfl (by decide) inX3 rfl tyX3 tyX3_ok nmX3 rfl rfl rfl rfl (Nat.le_of_ble_eq_true rfl) qf_X3_15 (by rw [mrow_self]; exact wF_11) mrow_oth hd kk
theorem put_X3_19 (C : CX p s m args c cc nL "CostsAge$Reader" D cy ad G A R d cells slots) {i : Nat} {x : Int32} (hg : wG G 11 i) (hd : decode cc pc = .ok (.putfield 19, 3)) (kk : V p l e R s m args below meth c nL D cy ad G A cells slots Q (pc + 3) lv st (mset M 11 i 2 x)) : V p l e R s m args below meth c nL D cy ad G A cells slots Q pc lv (.int x :: .ref (ad 11 i) :: st) M :=
  V_put (host := "") (k := 2) (ty := .int) C hg wF_11 rfl (by decide) inX3 rfl tyX3 tyX3_ok nmX3 rfl rfl rfl rfl (Nat.le_of_ble_eq_true rfl) qf_X3_19 (by rw [mrow_self]; exact wF_11) mrow_oth hd kk
theorem put_X3_22 (C : CX p s m args c cc nL "CostsAge$Reader" D cy ad G A R d cells slots) {i : Nat} {x : Int32} (hg : wG G 11 i) (hd : decode cc pc = .ok (.putfield 22, 3)) (kk : V p l e R s m args below meth c nL D cy ad G A cells slots Q (pc + 3) lv st (mset M 11 i 7 x)) : V p l e R s m args below meth c nL D cy ad G A cells slots Q pc lv (.int x :: .ref (ad 11 i) :: st) M :=
  V_put (host := "") (k := 7) (ty := .int) C hg wF_11 rfl (by decide) inX3 rfl tyX3 tyX3_ok nmX3 rfl rfl rfl rfl (Nat.le_of_ble_eq_true rfl) qf_X3_22 (by rw [mrow_self]; exact wF_11) mrow_oth hd kk
theorem put_X3_25 (C : CX p s m args c cc nL "CostsAge$Reader" D cy ad G A R d cells slots) {i : Nat} {x : Int32} (hg : wG G 11 i) (hd : decode cc pc = .ok (.putfield 25, 3)) (kk : V p l e R s m args below meth c nL D cy ad G A cells slots Q (pc + 3) lv st (mset M 11 i 6 x)) : V p l e R s m args below meth c nL D cy ad G A cells slots Q pc lv (.int x :: .ref (ad 11 i) :: st) M :=
  V_put (host := "") (k := 6) (ty := .int) C hg wF_11 rfl (by decide) inX3 rfl tyX3 tyX3_ok nmX3 rfl rfl rfl rfl (Nat.le_of_ble_eq_true rfl) qf_X3_25 (by rw [mrow_self]; exact wF_11) mrow_oth hd kk
theorem qf_X3_40 : Cond.fieldLinkNest "CostsAge$Reader" 40 "CostsAge$Text" "servesEnd" "I" "CostsAge" ∈ lw_tbl := tb 218 (by decide +kernel)
theorem put_X3_40 (C : CX p s m args c cc nL "CostsAge$Reader" D cy ad G A R d cells slots) {i : Nat} {x : Int32} (hg : wG G 7 i) (hd : decode cc pc = .ok (.putfield 40, 3)) (kk : V p l e R s m args below meth c nL D cy ad G A cells slots Q (pc + 3) lv st (mset M 7 i 1 x)) : V p l e R s m args below meth c nL D cy ad G A cells slots Q pc lv (.int x :: .ref (ad 7 i) :: st) M :=
  V_putN (host := "CostsAge") (k := 1) (ty := .int) C hg wF_7 rfl (by decide) inX7 rfl tyX7 tyX7_ok nmX7 rfl rfl rfl rfl (Nat.le_of_ble_eq_true rfl) qf_X3_40 (by rw [mrow_self]; exact wF_7) mrow_oth hd kk
theorem qf_X3_43 : Cond.fieldLinkNest "CostsAge$Reader" 43 "CostsAge$Text" "addsEnd" "I" "CostsAge" ∈ lw_tbl := tb 220 (by decide +kernel)
theorem put_X3_43 (C : CX p s m args c cc nL "CostsAge$Reader" D cy ad G A R d cells slots) {i : Nat} {x : Int32} (hg : wG G 7 i) (hd : decode cc pc = .ok (.putfield 43, 3)) (kk : V p l e R s m args below meth c nL D cy ad G A cells slots Q (pc + 3) lv st (mset M 7 i 2 x)) : V p l e R s m args below meth c nL D cy ad G A cells slots Q pc lv (.int x :: .ref (ad 7 i) :: st) M :=
  V_putN (host := "CostsAge") (k := 2) (ty := .int) C hg wF_7 rfl (by decide) inX7 rfl tyX7 tyX7_ok nmX7 rfl rfl rfl rfl (Nat.le_of_ble_eq_true rfl) qf_X3_43 (by rw [mrow_self]; exact wF_7) mrow_oth hd kk
theorem qf_X3_46 : Cond.fieldLinkNest "CostsAge$Reader" 46 "CostsAge$Text" "gainsEnd" "I" "CostsAge" ∈ lw_tbl := tb 222 (by decide +kernel)
theorem put_X3_46 (C : CX p s m args c cc nL "CostsAge$Reader" D cy ad G A R d cells slots) {i : Nat} {x : Int32} (hg : wG G 7 i) (hd : decode cc pc = .ok (.putfield 46, 3)) (kk : V p l e R s m args below meth c nL D cy ad G A cells slots Q (pc + 3) lv st (mset M 7 i 3 x)) : V p l e R s m args below meth c nL D cy ad G A cells slots Q pc lv (.int x :: .ref (ad 7 i) :: st) M :=
  V_putN (host := "CostsAge") (k := 3) (ty := .int) C hg wF_7 rfl (by decide) inX7 rfl tyX7 tyX7_ok nmX7 rfl rfl rfl rfl (Nat.le_of_ble_eq_true rfl) qf_X3_46 (by rw [mrow_self]; exact wF_7) mrow_oth hd kk
theorem put_X3_49 (C : CX p s m args c cc nL "CostsAge$Reader" D cy ad G A R d cells slots) {i : Nat} {x : Int32} (hg : wG G 11 i) (hd : decode cc pc = .ok (.putfield 49, 3)) (kk : V p l e R s m args below meth c nL D cy ad G A cells slots Q (pc + 3) lv st (mset M 11 i 4 x)) : V p l e R s m args below meth c nL D cy ad G A cells slots Q pc lv (.int x :: .ref (ad 11 i) :: st) M :=
  V_put (host := "") (k := 4) (ty := .int) C hg wF_11 rfl (by decide) inX3 rfl tyX3 tyX3_ok nmX3 rfl rfl rfl rfl (Nat.le_of_ble_eq_true rfl) qf_X3_49 (by rw [mrow_self]; exact wF_11) mrow_oth hd kk
theorem put_X3_85 (C : CX p s m args c cc nL "CostsAge$Reader" D cy ad G A R d cells slots) {i : Nat} {x : Int32} (hg : wG G 11 i) (hd : decode cc pc = .ok (.putfield 85, 3)) (kk : V p l e R s m args below meth c nL D cy ad G A cells slots Q (pc + 3) lv st (mset M 11 i 5 x)) : V p l e R s m args below meth c nL D cy ad G A cells slots Q pc lv (.int x :: .ref (ad 11 i) :: st) M :=
  V_put (host := "") (k := 5) (ty := .int) C hg wF_11 rfl (by decide) inX3 rfl tyX3 tyX3_ok nmX3 rfl rfl rfl rfl (Nat.le_of_ble_eq_true rfl) qf_X3_85 (by rw [mrow_self]; exact wF_11) mrow_oth hd kk
theorem put_X3_88 (C : CX p s m args c cc nL "CostsAge$Reader" D cy ad G A R d cells slots) {i : Nat} {x : Int32} (hg : wG G 11 i) (hd : decode cc pc = .ok (.putfield 88, 3)) (kk : V p l e R s m args below meth c nL D cy ad G A cells slots Q (pc + 3) lv st (mset M 11 i 3 x)) : V p l e R s m args below meth c nL D cy ad G A cells slots Q pc lv (.int x :: .ref (ad 11 i) :: st) M :=
  V_put (host := "") (k := 3) (ty := .int) C hg wF_11 rfl (by decide) inX3 rfl tyX3 tyX3_ok nmX3 rfl rfl rfl rfl (Nat.le_of_ble_eq_true rfl) qf_X3_88 (by rw [mrow_self]; exact wF_11) mrow_oth hd kk
theorem qf_X4_18 : Cond.fieldLink "CostsAge$Scene" 18 "CostsAge$Scene" "owner" "I" ∈ lw_good := tg (tb 77 (by decide +kernel)) rfl
theorem put_X4_18 (C : CX p s m args c cc nL "CostsAge$Scene" D cy ad G A R d cells slots) {i : Nat} {x : Int32} (hg : wG G 13 i) (hd : decode cc pc = .ok (.putfield 18, 3)) (kk : V p l e R s m args below meth c nL D cy ad G A cells slots Q (pc + 3) lv st (mset M 13 i 2 x)) : V p l e R s m args below meth c nL D cy ad G A cells slots Q pc lv (.int x :: .ref (ad 13 i) :: st) M :=
  V_put (host := "") (k := 2) (ty := .int) C hg wF_13 rfl (by decide) inX4 rfl tyX4 tyX4_ok nmX4 rfl rfl rfl rfl (Nat.le_of_ble_eq_true rfl) qf_X4_18 (by rw [mrow_self]; exact wF_13) mrow_oth hd kk
theorem put_X5_15 (C : CX p s m args c cc nL "CostsAge$Sheet" D cy ad G A R d cells slots) {i : Nat} {x : Int32} (hg : wG G 9 i) (hd : decode cc pc = .ok (.putfield 15, 3)) (kk : V p l e R s m args below meth c nL D cy ad G A cells slots Q (pc + 3) lv st (mset M 9 i 1 x)) : V p l e R s m args below meth c nL D cy ad G A cells slots Q pc lv (.int x :: .ref (ad 9 i) :: st) M :=
  V_put (host := "") (k := 1) (ty := .int) C hg wF_9 rfl (by decide) inX5 rfl tyX5 tyX5_ok nmX5 rfl rfl rfl rfl (Nat.le_of_ble_eq_true rfl) qf_X5_15 (by rw [mrow_self]; exact wF_9) mrow_oth hd kk
theorem put_X5_19 (C : CX p s m args c cc nL "CostsAge$Sheet" D cy ad G A R d cells slots) {i : Nat} {x : Int32} (hg : wG G 9 i) (hd : decode cc pc = .ok (.putfield 19, 3)) (kk : V p l e R s m args below meth c nL D cy ad G A cells slots Q (pc + 3) lv st (mset M 9 i 2 x)) : V p l e R s m args below meth c nL D cy ad G A cells slots Q pc lv (.int x :: .ref (ad 9 i) :: st) M :=
  V_put (host := "") (k := 2) (ty := .int) C hg wF_9 rfl (by decide) inX5 rfl tyX5 tyX5_ok nmX5 rfl rfl rfl rfl (Nat.le_of_ble_eq_true rfl) qf_X5_19 (by rw [mrow_self]; exact wF_9) mrow_oth hd kk
theorem put_X6_27 (C : CX p s m args c cc nL "CostsAge$Standing" D cy ad G A R d cells slots) {i : Nat} {x : Int32} (hg : wG G 26 i) (hd : decode cc pc = .ok (.putfield 27, 3)) (kk : V p l e R s m args below meth c nL D cy ad G A cells slots Q (pc + 3) lv st (mset M 26 i 3 x)) : V p l e R s m args below meth c nL D cy ad G A cells slots Q pc lv (.int x :: .ref (ad 26 i) :: st) M :=
  V_put (host := "") (k := 3) (ty := .int) C hg wF_26 rfl (by decide) inX6 rfl tyX6 tyX6_ok nmX6 rfl rfl rfl rfl (Nat.le_of_ble_eq_true rfl) qf_X6_27 (by rw [mrow_self]; exact wF_26) mrow_oth hd kk
theorem put_X6_31 (C : CX p s m args c cc nL "CostsAge$Standing" D cy ad G A R d cells slots) {i : Nat} {x : Int32} (hg : wG G 26 i) (hd : decode cc pc = .ok (.putfield 31, 3)) (kk : V p l e R s m args below meth c nL D cy ad G A cells slots Q (pc + 3) lv st (mset M 26 i 4 x)) : V p l e R s m args below meth c nL D cy ad G A cells slots Q pc lv (.int x :: .ref (ad 26 i) :: st) M :=
  V_put (host := "") (k := 4) (ty := .int) C hg wF_26 rfl (by decide) inX6 rfl tyX6 tyX6_ok nmX6 rfl rfl rfl rfl (Nat.le_of_ble_eq_true rfl) qf_X6_31 (by rw [mrow_self]; exact wF_26) mrow_oth hd kk
theorem put_X6_34 (C : CX p s m args c cc nL "CostsAge$Standing" D cy ad G A R d cells slots) {i : Nat} {x : Int32} (hg : wG G 26 i) (hd : decode cc pc = .ok (.putfield 34, 3)) (kk : V p l e R s m args below meth c nL D cy ad G A cells slots Q (pc + 3) lv st (mset M 26 i 5 x)) : V p l e R s m args below meth c nL D cy ad G A cells slots Q pc lv (.int x :: .ref (ad 26 i) :: st) M :=
  V_put (host := "") (k := 5) (ty := .int) C hg wF_26 rfl (by decide) inX6 rfl tyX6 tyX6_ok nmX6 rfl rfl rfl rfl (Nat.le_of_ble_eq_true rfl) qf_X6_34 (by rw [mrow_self]; exact wF_26) mrow_oth hd kk
theorem put_X6_37 (C : CX p s m args c cc nL "CostsAge$Standing" D cy ad G A R d cells slots) {i : Nat} {x : Int32} (hg : wG G 26 i) (hd : decode cc pc = .ok (.putfield 37, 3)) (kk : V p l e R s m args below meth c nL D cy ad G A cells slots Q (pc + 3) lv st (mset M 26 i 6 x)) : V p l e R s m args below meth c nL D cy ad G A cells slots Q pc lv (.int x :: .ref (ad 26 i) :: st) M :=
  V_put (host := "") (k := 6) (ty := .int) C hg wF_26 rfl (by decide) inX6 rfl tyX6 tyX6_ok nmX6 rfl rfl rfl rfl (Nat.le_of_ble_eq_true rfl) qf_X6_37 (by rw [mrow_self]; exact wF_26) mrow_oth hd kk
theorem put_X6_40 (C : CX p s m args c cc nL "CostsAge$Standing" D cy ad G A R d cells slots) {i : Nat} {x : Int32} (hg : wG G 26 i) (hd : decode cc pc = .ok (.putfield 40, 3)) (kk : V p l e R s m args below meth c nL D cy ad G A cells slots Q (pc + 3) lv st (mset M 26 i 7 x)) : V p l e R s m args below meth c nL D cy ad G A cells slots Q pc lv (.int x :: .ref (ad 26 i) :: st) M :=
  V_put (host := "") (k := 7) (ty := .int) C hg wF_26 rfl (by decide) inX6 rfl tyX6 tyX6_ok nmX6 rfl rfl rfl rfl (Nat.le_of_ble_eq_true rfl) qf_X6_40 (by rw [mrow_self]; exact wF_26) mrow_oth hd kk
theorem put_X6_43 (C : CX p s m args c cc nL "CostsAge$Standing" D cy ad G A R d cells slots) {i : Nat} {x : Int32} (hg : wG G 26 i) (hd : decode cc pc = .ok (.putfield 43, 3)) (kk : V p l e R s m args below meth c nL D cy ad G A cells slots Q (pc + 3) lv st (mset M 26 i 8 x)) : V p l e R s m args below meth c nL D cy ad G A cells slots Q pc lv (.int x :: .ref (ad 26 i) :: st) M :=
  V_put (host := "") (k := 8) (ty := .int) C hg wF_26 rfl (by decide) inX6 rfl tyX6 tyX6_ok nmX6 rfl rfl rfl rfl (Nat.le_of_ble_eq_true rfl) qf_X6_43 (by rw [mrow_self]; exact wF_26) mrow_oth hd kk
theorem put_X10_47 (C : CX p s m args c cc nL "CostsAgeModel" D cy ad G A R d cells slots) {i : Nat} {x : Int32} (hg : wG G 30 i) (hd : decode cc pc = .ok (.putfield 47, 3)) (kk : V p l e R s m args below meth c nL D cy ad G A cells slots Q (pc + 3) lv st (mset M 30 i 21 x)) : V p l e R s m args below meth c nL D cy ad G A cells slots Q pc lv (.int x :: .ref (ad 30 i) :: st) M :=
  V_put (host := "") (k := 21) (ty := .int) C hg wF_30 rfl (by decide) inX10 rfl tyX10 tyX10_ok nmX10 rfl rfl rfl rfl (Nat.le_of_ble_eq_true rfl) qf_X10_47 (by rw [mrow_self]; exact wF_30) mrow_oth hd kk
theorem put_X10_80 (C : CX p s m args c cc nL "CostsAgeModel" D cy ad G A R d cells slots) {i : Nat} {x : Int32} (hg : wG G 30 i) (hd : decode cc pc = .ok (.putfield 80, 3)) (kk : V p l e R s m args below meth c nL D cy ad G A cells slots Q (pc + 3) lv st (mset M 30 i 49 x)) : V p l e R s m args below meth c nL D cy ad G A cells slots Q pc lv (.int x :: .ref (ad 30 i) :: st) M :=
  V_put (host := "") (k := 49) (ty := .int) C hg wF_30 rfl (by decide) inX10 rfl tyX10 tyX10_ok nmX10 rfl rfl rfl rfl (Nat.le_of_ble_eq_true rfl) qf_X10_80 (by rw [mrow_self]; exact wF_30) mrow_oth hd kk
theorem put_X10_100 (C : CX p s m args c cc nL "CostsAgeModel" D cy ad G A R d cells slots) {i : Nat} {x : Int32} (hg : wG G 30 i) (hd : decode cc pc = .ok (.putfield 100, 3)) (kk : V p l e R s m args below meth c nL D cy ad G A cells slots Q (pc + 3) lv st (mset M 30 i 3 x)) : V p l e R s m args below meth c nL D cy ad G A cells slots Q pc lv (.int x :: .ref (ad 30 i) :: st) M :=
  V_put (host := "") (k := 3) (ty := .int) C hg wF_30 rfl (by decide) inX10 rfl tyX10 tyX10_ok nmX10 rfl rfl rfl rfl (Nat.le_of_ble_eq_true rfl) qf_X10_100 (by rw [mrow_self]; exact wF_30) mrow_oth hd kk
theorem put_X10_103 (C : CX p s m args c cc nL "CostsAgeModel" D cy ad G A R d cells slots) {i : Nat} {x : Int32} (hg : wG G 30 i) (hd : decode cc pc = .ok (.putfield 103, 3)) (kk : V p l e R s m args below meth c nL D cy ad G A cells slots Q (pc + 3) lv st (mset M 30 i 12 x)) : V p l e R s m args below meth c nL D cy ad G A cells slots Q pc lv (.int x :: .ref (ad 30 i) :: st) M :=
  V_put (host := "") (k := 12) (ty := .int) C hg wF_30 rfl (by decide) inX10 rfl tyX10 tyX10_ok nmX10 rfl rfl rfl rfl (Nat.le_of_ble_eq_true rfl) qf_X10_103 (by rw [mrow_self]; exact wF_30) mrow_oth hd kk
theorem put_X10_110 (C : CX p s m args c cc nL "CostsAgeModel" D cy ad G A R d cells slots) {i : Nat} {x : Int32} (hg : wG G 30 i) (hd : decode cc pc = .ok (.putfield 110, 3)) (kk : V p l e R s m args below meth c nL D cy ad G A cells slots Q (pc + 3) lv st (mset M 30 i 16 x)) : V p l e R s m args below meth c nL D cy ad G A cells slots Q pc lv (.int x :: .ref (ad 30 i) :: st) M :=
  V_put (host := "") (k := 16) (ty := .int) C hg wF_30 rfl (by decide) inX10 rfl tyX10 tyX10_ok nmX10 rfl rfl rfl rfl (Nat.le_of_ble_eq_true rfl) qf_X10_110 (by rw [mrow_self]; exact wF_30) mrow_oth hd kk
theorem put_X10_113 (C : CX p s m args c cc nL "CostsAgeModel" D cy ad G A R d cells slots) {i : Nat} {x : Int32} (hg : wG G 30 i) (hd : decode cc pc = .ok (.putfield 113, 3)) (kk : V p l e R s m args below meth c nL D cy ad G A cells slots Q (pc + 3) lv st (mset M 30 i 17 x)) : V p l e R s m args below meth c nL D cy ad G A cells slots Q pc lv (.int x :: .ref (ad 30 i) :: st) M :=
  V_put (host := "") (k := 17) (ty := .int) C hg wF_30 rfl (by decide) inX10 rfl tyX10 tyX10_ok nmX10 rfl rfl rfl rfl (Nat.le_of_ble_eq_true rfl) qf_X10_113 (by rw [mrow_self]; exact wF_30) mrow_oth hd kk
theorem put_X10_141 (C : CX p s m args c cc nL "CostsAgeModel" D cy ad G A R d cells slots) {i : Nat} {x : Int32} (hg : wG G 30 i) (hd : decode cc pc = .ok (.putfield 141, 3)) (kk : V p l e R s m args below meth c nL D cy ad G A cells slots Q (pc + 3) lv st (mset M 30 i 18 x)) : V p l e R s m args below meth c nL D cy ad G A cells slots Q pc lv (.int x :: .ref (ad 30 i) :: st) M :=
  V_put (host := "") (k := 18) (ty := .int) C hg wF_30 rfl (by decide) inX10 rfl tyX10 tyX10_ok nmX10 rfl rfl rfl rfl (Nat.le_of_ble_eq_true rfl) qf_X10_141 (by rw [mrow_self]; exact wF_30) mrow_oth hd kk
theorem put_X10_154 (C : CX p s m args c cc nL "CostsAgeModel" D cy ad G A R d cells slots) {i : Nat} {x : Int32} (hg : wG G 30 i) (hd : decode cc pc = .ok (.putfield 154, 3)) (kk : V p l e R s m args below meth c nL D cy ad G A cells slots Q (pc + 3) lv st (mset M 30 i 6 x)) : V p l e R s m args below meth c nL D cy ad G A cells slots Q pc lv (.int x :: .ref (ad 30 i) :: st) M :=
  V_put (host := "") (k := 6) (ty := .int) C hg wF_30 rfl (by decide) inX10 rfl tyX10 tyX10_ok nmX10 rfl rfl rfl rfl (Nat.le_of_ble_eq_true rfl) qf_X10_154 (by rw [mrow_self]; exact wF_30) mrow_oth hd kk
theorem put_X10_157 (C : CX p s m args c cc nL "CostsAgeModel" D cy ad G A R d cells slots) {i : Nat} {x : Int32} (hg : wG G 30 i) (hd : decode cc pc = .ok (.putfield 157, 3)) (kk : V p l e R s m args below meth c nL D cy ad G A cells slots Q (pc + 3) lv st (mset M 30 i 29 x)) : V p l e R s m args below meth c nL D cy ad G A cells slots Q pc lv (.int x :: .ref (ad 30 i) :: st) M :=
  V_put (host := "") (k := 29) (ty := .int) C hg wF_30 rfl (by decide) inX10 rfl tyX10 tyX10_ok nmX10 rfl rfl rfl rfl (Nat.le_of_ble_eq_true rfl) qf_X10_157 (by rw [mrow_self]; exact wF_30) mrow_oth hd kk
theorem put_X10_160 (C : CX p s m args c cc nL "CostsAgeModel" D cy ad G A R d cells slots) {i : Nat} {x : Int32} (hg : wG G 30 i) (hd : decode cc pc = .ok (.putfield 160, 3)) (kk : V p l e R s m args below meth c nL D cy ad G A cells slots Q (pc + 3) lv st (mset M 30 i 28 x)) : V p l e R s m args below meth c nL D cy ad G A cells slots Q pc lv (.int x :: .ref (ad 30 i) :: st) M :=
  V_put (host := "") (k := 28) (ty := .int) C hg wF_30 rfl (by decide) inX10 rfl tyX10 tyX10_ok nmX10 rfl rfl rfl rfl (Nat.le_of_ble_eq_true rfl) qf_X10_160 (by rw [mrow_self]; exact wF_30) mrow_oth hd kk
theorem put_X10_163 (C : CX p s m args c cc nL "CostsAgeModel" D cy ad G A R d cells slots) {i : Nat} {x : Int32} (hg : wG G 30 i) (hd : decode cc pc = .ok (.putfield 163, 3)) (kk : V p l e R s m args below meth c nL D cy ad G A cells slots Q (pc + 3) lv st (mset M 30 i 30 x)) : V p l e R s m args below meth c nL D cy ad G A cells slots Q pc lv (.int x :: .ref (ad 30 i) :: st) M :=
  V_put (host := "") (k := 30) (ty := .int) C hg wF_30 rfl (by decide) inX10 rfl tyX10 tyX10_ok nmX10 rfl rfl rfl rfl (Nat.le_of_ble_eq_true rfl) qf_X10_163 (by rw [mrow_self]; exact wF_30) mrow_oth hd kk
theorem put_X10_169 (C : CX p s m args c cc nL "CostsAgeModel" D cy ad G A R d cells slots) {i : Nat} {x : Int32} (hg : wG G 30 i) (hd : decode cc pc = .ok (.putfield 169, 3)) (kk : V p l e R s m args below meth c nL D cy ad G A cells slots Q (pc + 3) lv st (mset M 30 i 32 x)) : V p l e R s m args below meth c nL D cy ad G A cells slots Q pc lv (.int x :: .ref (ad 30 i) :: st) M :=
  V_put (host := "") (k := 32) (ty := .int) C hg wF_30 rfl (by decide) inX10 rfl tyX10 tyX10_ok nmX10 rfl rfl rfl rfl (Nat.le_of_ble_eq_true rfl) qf_X10_169 (by rw [mrow_self]; exact wF_30) mrow_oth hd kk
theorem put_X10_172 (C : CX p s m args c cc nL "CostsAgeModel" D cy ad G A R d cells slots) {i : Nat} {x : Int32} (hg : wG G 30 i) (hd : decode cc pc = .ok (.putfield 172, 3)) (kk : V p l e R s m args below meth c nL D cy ad G A cells slots Q (pc + 3) lv st (mset M 30 i 31 x)) : V p l e R s m args below meth c nL D cy ad G A cells slots Q pc lv (.int x :: .ref (ad 30 i) :: st) M :=
  V_put (host := "") (k := 31) (ty := .int) C hg wF_30 rfl (by decide) inX10 rfl tyX10 tyX10_ok nmX10 rfl rfl rfl rfl (Nat.le_of_ble_eq_true rfl) qf_X10_172 (by rw [mrow_self]; exact wF_30) mrow_oth hd kk
theorem put_X10_183 (C : CX p s m args c cc nL "CostsAgeModel" D cy ad G A R d cells slots) {x : Int64} (hg : wG G 30 0) (hd : decode cc pc = .ok (.putfield 183, 3)) (kk : V p l e R s m args below meth c nL D cy ad G A cells slots Q (pc + 3) lv st ((M.1, x) : wS)) : V p l e R s m args below meth c nL D cy ad G A cells slots Q pc lv (.long x :: .ref (ad 30 0) :: st) M :=
  V_put (host := "") (k := 33) (ty := .long) (M' := ((M.1, x) : wS)) C hg wF_30 rfl (by decide) inX10 rfl tyX10 tyX10_ok nmX10 rfl rfl rfl rfl (Nat.le_of_ble_eq_true rfl) qf_X10_183 wF_30 mlong_oth hd kk
theorem put_X10_187 (C : CX p s m args c cc nL "CostsAgeModel" D cy ad G A R d cells slots) {i : Nat} {x : Int32} (hx : narrow .boolean (.int x) = .int x) (hx2 : fits .boolean (.int x) = true) (hg : wG G 30 i) (hd : decode cc pc = .ok (.putfield 187, 3)) (kk : V p l e R s m args below meth c nL D cy ad G A cells slots Q (pc + 3) lv st (mset M 30 i 35 x)) : V p l e R s m args below meth c nL D cy ad G A cells slots Q pc lv (.int x :: .ref (ad 30 i) :: st) M :=
  V_put (host := "") (k := 35) (ty := .boolean) C hg wF_30 rfl (by decide) inX10 rfl tyX10 tyX10_ok nmX10 rfl rfl hx hx2 (Nat.le_of_ble_eq_true rfl) qf_X10_187 (by rw [mrow_self]; exact wF_30) mrow_oth hd kk
theorem put_X10_191 (C : CX p s m args c cc nL "CostsAgeModel" D cy ad G A R d cells slots) {i : Nat} {x : Int32} (hg : wG G 30 i) (hd : decode cc pc = .ok (.putfield 191, 3)) (kk : V p l e R s m args below meth c nL D cy ad G A cells slots Q (pc + 3) lv st (mset M 30 i 36 x)) : V p l e R s m args below meth c nL D cy ad G A cells slots Q pc lv (.int x :: .ref (ad 30 i) :: st) M :=
  V_put (host := "") (k := 36) (ty := .int) C hg wF_30 rfl (by decide) inX10 rfl tyX10 tyX10_ok nmX10 rfl rfl rfl rfl (Nat.le_of_ble_eq_true rfl) qf_X10_191 (by rw [mrow_self]; exact wF_30) mrow_oth hd kk
theorem put_X10_198 (C : CX p s m args c cc nL "CostsAgeModel" D cy ad G A R d cells slots) {i : Nat} {x : Int32} (hg : wG G 30 i) (hd : decode cc pc = .ok (.putfield 198, 3)) (kk : V p l e R s m args below meth c nL D cy ad G A cells slots Q (pc + 3) lv st (mset M 30 i 34 x)) : V p l e R s m args below meth c nL D cy ad G A cells slots Q pc lv (.int x :: .ref (ad 30 i) :: st) M :=
  V_put (host := "") (k := 34) (ty := .int) C hg wF_30 rfl (by decide) inX10 rfl tyX10 tyX10_ok nmX10 rfl rfl rfl rfl (Nat.le_of_ble_eq_true rfl) qf_X10_198 (by rw [mrow_self]; exact wF_30) mrow_oth hd kk
theorem put_X10_211 (C : CX p s m args c cc nL "CostsAgeModel" D cy ad G A R d cells slots) {i : Nat} {x : Int32} (hg : wG G 30 i) (hd : decode cc pc = .ok (.putfield 211, 3)) (kk : V p l e R s m args below meth c nL D cy ad G A cells slots Q (pc + 3) lv st (mset M 30 i 22 x)) : V p l e R s m args below meth c nL D cy ad G A cells slots Q pc lv (.int x :: .ref (ad 30 i) :: st) M :=
  V_put (host := "") (k := 22) (ty := .int) C hg wF_30 rfl (by decide) inX10 rfl tyX10 tyX10_ok nmX10 rfl rfl rfl rfl (Nat.le_of_ble_eq_true rfl) qf_X10_211 (by rw [mrow_self]; exact wF_30) mrow_oth hd kk
theorem put_X10_214 (C : CX p s m args c cc nL "CostsAgeModel" D cy ad G A R d cells slots) {i : Nat} {x : Int32} (hg : wG G 30 i) (hd : decode cc pc = .ok (.putfield 214, 3)) (kk : V p l e R s m args below meth c nL D cy ad G A cells slots Q (pc + 3) lv st (mset M 30 i 23 x)) : V p l e R s m args below meth c nL D cy ad G A cells slots Q pc lv (.int x :: .ref (ad 30 i) :: st) M :=
  V_put (host := "") (k := 23) (ty := .int) C hg wF_30 rfl (by decide) inX10 rfl tyX10 tyX10_ok nmX10 rfl rfl rfl rfl (Nat.le_of_ble_eq_true rfl) qf_X10_214 (by rw [mrow_self]; exact wF_30) mrow_oth hd kk
theorem put_X10_217 (C : CX p s m args c cc nL "CostsAgeModel" D cy ad G A R d cells slots) {i : Nat} {x : Int32} (hg : wG G 30 i) (hd : decode cc pc = .ok (.putfield 217, 3)) (kk : V p l e R s m args below meth c nL D cy ad G A cells slots Q (pc + 3) lv st (mset M 30 i 24 x)) : V p l e R s m args below meth c nL D cy ad G A cells slots Q pc lv (.int x :: .ref (ad 30 i) :: st) M :=
  V_put (host := "") (k := 24) (ty := .int) C hg wF_30 rfl (by decide) inX10 rfl tyX10 tyX10_ok nmX10 rfl rfl rfl rfl (Nat.le_of_ble_eq_true rfl) qf_X10_217 (by rw [mrow_self]; exact wF_30) mrow_oth hd kk
theorem put_X10_220 (C : CX p s m args c cc nL "CostsAgeModel" D cy ad G A R d cells slots) {i : Nat} {x : Int32} (hg : wG G 30 i) (hd : decode cc pc = .ok (.putfield 220, 3)) (kk : V p l e R s m args below meth c nL D cy ad G A cells slots Q (pc + 3) lv st (mset M 30 i 25 x)) : V p l e R s m args below meth c nL D cy ad G A cells slots Q pc lv (.int x :: .ref (ad 30 i) :: st) M :=
  V_put (host := "") (k := 25) (ty := .int) C hg wF_30 rfl (by decide) inX10 rfl tyX10 tyX10_ok nmX10 rfl rfl rfl rfl (Nat.le_of_ble_eq_true rfl) qf_X10_220 (by rw [mrow_self]; exact wF_30) mrow_oth hd kk
theorem put_X10_223 (C : CX p s m args c cc nL "CostsAgeModel" D cy ad G A R d cells slots) {i : Nat} {x : Int32} (hg : wG G 30 i) (hd : decode cc pc = .ok (.putfield 223, 3)) (kk : V p l e R s m args below meth c nL D cy ad G A cells slots Q (pc + 3) lv st (mset M 30 i 26 x)) : V p l e R s m args below meth c nL D cy ad G A cells slots Q pc lv (.int x :: .ref (ad 30 i) :: st) M :=
  V_put (host := "") (k := 26) (ty := .int) C hg wF_30 rfl (by decide) inX10 rfl tyX10 tyX10_ok nmX10 rfl rfl rfl rfl (Nat.le_of_ble_eq_true rfl) qf_X10_223 (by rw [mrow_self]; exact wF_30) mrow_oth hd kk
theorem put_X10_226 (C : CX p s m args c cc nL "CostsAgeModel" D cy ad G A R d cells slots) {i : Nat} {x : Int32} (hg : wG G 30 i) (hd : decode cc pc = .ok (.putfield 226, 3)) (kk : V p l e R s m args below meth c nL D cy ad G A cells slots Q (pc + 3) lv st (mset M 30 i 27 x)) : V p l e R s m args below meth c nL D cy ad G A cells slots Q pc lv (.int x :: .ref (ad 30 i) :: st) M :=
  V_put (host := "") (k := 27) (ty := .int) C hg wF_30 rfl (by decide) inX10 rfl tyX10 tyX10_ok nmX10 rfl rfl rfl rfl (Nat.le_of_ble_eq_true rfl) qf_X10_226 (by rw [mrow_self]; exact wF_30) mrow_oth hd kk
theorem put_X10_270 (C : CX p s m args c cc nL "CostsAgeModel" D cy ad G A R d cells slots) {i : Nat} {x : Int32} (hg : wG G 30 i) (hd : decode cc pc = .ok (.putfield 270, 3)) (kk : V p l e R s m args below meth c nL D cy ad G A cells slots Q (pc + 3) lv st (mset M 30 i 4 x)) : V p l e R s m args below meth c nL D cy ad G A cells slots Q pc lv (.int x :: .ref (ad 30 i) :: st) M :=
  V_put (host := "") (k := 4) (ty := .int) C hg wF_30 rfl (by decide) inX10 rfl tyX10 tyX10_ok nmX10 rfl rfl rfl rfl (Nat.le_of_ble_eq_true rfl) qf_X10_270 (by rw [mrow_self]; exact wF_30) mrow_oth hd kk
theorem put_X10_300 (C : CX p s m args c cc nL "CostsAgeModel" D cy ad G A R d cells slots) {i : Nat} {x : Int32} (hg : wG G 30 i) (hd : decode cc pc = .ok (.putfield 300, 3)) (kk : V p l e R s m args below meth c nL D cy ad G A cells slots Q (pc + 3) lv st (mset M 30 i 37 x)) : V p l e R s m args below meth c nL D cy ad G A cells slots Q pc lv (.int x :: .ref (ad 30 i) :: st) M :=
  V_put (host := "") (k := 37) (ty := .int) C hg wF_30 rfl (by decide) inX10 rfl tyX10 tyX10_ok nmX10 rfl rfl rfl rfl (Nat.le_of_ble_eq_true rfl) qf_X10_300 (by rw [mrow_self]; exact wF_30) mrow_oth hd kk
theorem put_X10_306 (C : CX p s m args c cc nL "CostsAgeModel" D cy ad G A R d cells slots) {i : Nat} {x : Int32} (hg : wG G 30 i) (hd : decode cc pc = .ok (.putfield 306, 3)) (kk : V p l e R s m args below meth c nL D cy ad G A cells slots Q (pc + 3) lv st (mset M 30 i 38 x)) : V p l e R s m args below meth c nL D cy ad G A cells slots Q pc lv (.int x :: .ref (ad 30 i) :: st) M :=
  V_put (host := "") (k := 38) (ty := .int) C hg wF_30 rfl (by decide) inX10 rfl tyX10 tyX10_ok nmX10 rfl rfl rfl rfl (Nat.le_of_ble_eq_true rfl) qf_X10_306 (by rw [mrow_self]; exact wF_30) mrow_oth hd kk
theorem put_X10_312 (C : CX p s m args c cc nL "CostsAgeModel" D cy ad G A R d cells slots) {i : Nat} {x : Int32} (hg : wG G 30 i) (hd : decode cc pc = .ok (.putfield 312, 3)) (kk : V p l e R s m args below meth c nL D cy ad G A cells slots Q (pc + 3) lv st (mset M 30 i 20 x)) : V p l e R s m args below meth c nL D cy ad G A cells slots Q pc lv (.int x :: .ref (ad 30 i) :: st) M :=
  V_put (host := "") (k := 20) (ty := .int) C hg wF_30 rfl (by decide) inX10 rfl tyX10 tyX10_ok nmX10 rfl rfl rfl rfl (Nat.le_of_ble_eq_true rfl) qf_X10_312 (by rw [mrow_self]; exact wF_30) mrow_oth hd kk
theorem put_X10_315 (C : CX p s m args c cc nL "CostsAgeModel" D cy ad G A R d cells slots) {i : Nat} {x : Int32} (hg : wG G 30 i) (hd : decode cc pc = .ok (.putfield 315, 3)) (kk : V p l e R s m args below meth c nL D cy ad G A cells slots Q (pc + 3) lv st (mset M 30 i 19 x)) : V p l e R s m args below meth c nL D cy ad G A cells slots Q pc lv (.int x :: .ref (ad 30 i) :: st) M :=
  V_put (host := "") (k := 19) (ty := .int) C hg wF_30 rfl (by decide) inX10 rfl tyX10 tyX10_ok nmX10 rfl rfl rfl rfl (Nat.le_of_ble_eq_true rfl) qf_X10_315 (by rw [mrow_self]; exact wF_30) mrow_oth hd kk
theorem put_X10_330 (C : CX p s m args c cc nL "CostsAgeModel" D cy ad G A R d cells slots) {i : Nat} {x : Int32} (hg : wG G 30 i) (hd : decode cc pc = .ok (.putfield 330, 3)) (kk : V p l e R s m args below meth c nL D cy ad G A cells slots Q (pc + 3) lv st (mset M 30 i 50 x)) : V p l e R s m args below meth c nL D cy ad G A cells slots Q pc lv (.int x :: .ref (ad 30 i) :: st) M :=
  V_put (host := "") (k := 50) (ty := .int) C hg wF_30 rfl (by decide) inX10 rfl tyX10 tyX10_ok nmX10 rfl rfl rfl rfl (Nat.le_of_ble_eq_true rfl) qf_X10_330 (by rw [mrow_self]; exact wF_30) mrow_oth hd kk
theorem put_X10_333 (C : CX p s m args c cc nL "CostsAgeModel" D cy ad G A R d cells slots) {i : Nat} {x : Int32} (hg : wG G 30 i) (hd : decode cc pc = .ok (.putfield 333, 3)) (kk : V p l e R s m args below meth c nL D cy ad G A cells slots Q (pc + 3) lv st (mset M 30 i 51 x)) : V p l e R s m args below meth c nL D cy ad G A cells slots Q pc lv (.int x :: .ref (ad 30 i) :: st) M :=
  V_put (host := "") (k := 51) (ty := .int) C hg wF_30 rfl (by decide) inX10 rfl tyX10 tyX10_ok nmX10 rfl rfl rfl rfl (Nat.le_of_ble_eq_true rfl) qf_X10_333 (by rw [mrow_self]; exact wF_30) mrow_oth hd kk
theorem put_X10_336 (C : CX p s m args c cc nL "CostsAgeModel" D cy ad G A R d cells slots) {i : Nat} {x : Int32} (hg : wG G 30 i) (hd : decode cc pc = .ok (.putfield 336, 3)) (kk : V p l e R s m args below meth c nL D cy ad G A cells slots Q (pc + 3) lv st (mset M 30 i 52 x)) : V p l e R s m args below meth c nL D cy ad G A cells slots Q pc lv (.int x :: .ref (ad 30 i) :: st) M :=
  V_put (host := "") (k := 52) (ty := .int) C hg wF_30 rfl (by decide) inX10 rfl tyX10 tyX10_ok nmX10 rfl rfl rfl rfl (Nat.le_of_ble_eq_true rfl) qf_X10_336 (by rw [mrow_self]; exact wF_30) mrow_oth hd kk
theorem put_X10_339 (C : CX p s m args c cc nL "CostsAgeModel" D cy ad G A R d cells slots) {i : Nat} {x : Int32} (hg : wG G 30 i) (hd : decode cc pc = .ok (.putfield 339, 3)) (kk : V p l e R s m args below meth c nL D cy ad G A cells slots Q (pc + 3) lv st (mset M 30 i 53 x)) : V p l e R s m args below meth c nL D cy ad G A cells slots Q pc lv (.int x :: .ref (ad 30 i) :: st) M :=
  V_put (host := "") (k := 53) (ty := .int) C hg wF_30 rfl (by decide) inX10 rfl tyX10 tyX10_ok nmX10 rfl rfl rfl rfl (Nat.le_of_ble_eq_true rfl) qf_X10_339 (by rw [mrow_self]; exact wF_30) mrow_oth hd kk
theorem put_X10_342 (C : CX p s m args c cc nL "CostsAgeModel" D cy ad G A R d cells slots) {i : Nat} {x : Int32} (hg : wG G 30 i) (hd : decode cc pc = .ok (.putfield 342, 3)) (kk : V p l e R s m args below meth c nL D cy ad G A cells slots Q (pc + 3) lv st (mset M 30 i 54 x)) : V p l e R s m args below meth c nL D cy ad G A cells slots Q pc lv (.int x :: .ref (ad 30 i) :: st) M :=
  V_put (host := "") (k := 54) (ty := .int) C hg wF_30 rfl (by decide) inX10 rfl tyX10 tyX10_ok nmX10 rfl rfl rfl rfl (Nat.le_of_ble_eq_true rfl) qf_X10_342 (by rw [mrow_self]; exact wF_30) mrow_oth hd kk
theorem put_X10_345 (C : CX p s m args c cc nL "CostsAgeModel" D cy ad G A R d cells slots) {i : Nat} {x : Int32} (hg : wG G 30 i) (hd : decode cc pc = .ok (.putfield 345, 3)) (kk : V p l e R s m args below meth c nL D cy ad G A cells slots Q (pc + 3) lv st (mset M 30 i 55 x)) : V p l e R s m args below meth c nL D cy ad G A cells slots Q pc lv (.int x :: .ref (ad 30 i) :: st) M :=
  V_put (host := "") (k := 55) (ty := .int) C hg wF_30 rfl (by decide) inX10 rfl tyX10 tyX10_ok nmX10 rfl rfl rfl rfl (Nat.le_of_ble_eq_true rfl) qf_X10_345 (by rw [mrow_self]; exact wF_30) mrow_oth hd kk
theorem put_X10_348 (C : CX p s m args c cc nL "CostsAgeModel" D cy ad G A R d cells slots) {i : Nat} {x : Int32} (hg : wG G 30 i) (hd : decode cc pc = .ok (.putfield 348, 3)) (kk : V p l e R s m args below meth c nL D cy ad G A cells slots Q (pc + 3) lv st (mset M 30 i 56 x)) : V p l e R s m args below meth c nL D cy ad G A cells slots Q pc lv (.int x :: .ref (ad 30 i) :: st) M :=
  V_put (host := "") (k := 56) (ty := .int) C hg wF_30 rfl (by decide) inX10 rfl tyX10 tyX10_ok nmX10 rfl rfl rfl rfl (Nat.le_of_ble_eq_true rfl) qf_X10_348 (by rw [mrow_self]; exact wF_30) mrow_oth hd kk
theorem qm_X9_81 : Cond.methodLink "CostsAge" 81 yJ0_length_8abf5 ∈ lw_good := tg (tb 252 (by decide +kernel)) rfl
theorem call_X9_81 (C : CX p s m args c cc nL "CostsAge" D cy ad G A R d cells slots) {i : Nat} {Qf : Int32 → wS → Prop} (hM : Ctr l D cy ad G d2 yJ0_length_8abf5 cJ0_length_8abf5 1 (some .int) [.ref (ad 61 i)] M (rI Qf)) (hd2 : d2 + 1 ≤ d) (hi : i < 13) (hw : (st.map fun v => v.category).sum ≤ 8) (hd : decode cc pc = .ok (.invokevirtual 81, 3)) (k : ∀ x M', Qf x M' → V p l e R s m args below meth c nL D cy ad G A cells slots Q (pc + 3) lv (.int x :: st) M') : V p l e R s m args below meth c nL D cy ad G A cells slots Q pc lv (.ref (ad 61 i) :: st) M :=
  V_callK (n := 0) (As := []) C hM hd2 (by decide) qc_J0_length_8abf5 qm_X9_81 qi_J0_length_8abf5 ql_J0_length_8abf5 qn_java_lang_String (by decide +kernel) rfl hi rfl hw hd (fun r M' h => by obtain ⟨x, rfl, h⟩ := h; exact k x M' h)
theorem qm_X9_87 : Cond.methodLink "CostsAge" 87 yJ0_charAt_5068e ∈ lw_good := tg (tb 262 (by decide +kernel)) rfl
theorem call_X9_87 (C : CX p s m args c cc nL "CostsAge" D cy ad G A R d cells slots) {i : Nat} {v1 : Value} {Qf : Int32 → wS → Prop} (hM : Ctr l D cy ad G d2 yJ0_charAt_5068e cJ0_charAt_5068e 2 (some .char) [.ref (ad 61 i), v1] M (rI Qf)) (hd2 : d2 + 1 ≤ d) (hi : i < 13) (hw : (st.map fun v => v.category).sum ≤ 8) (hd : decode cc pc = .ok (.invokevirtual 87, 3)) (k : ∀ x M', Qf x M' → V p l e R s m args below meth c nL D cy ad G A cells slots Q (pc + 3) lv (.int x :: st) M') : V p l e R s m args below meth c nL D cy ad G A cells slots Q pc lv (v1 :: .ref (ad 61 i) :: st) M :=
  V_callK (n := 1) (As := [v1]) C hM hd2 (by decide) qc_J0_charAt_5068e qm_X9_87 qi_J0_charAt_5068e ql_J0_charAt_5068e qn_java_lang_String (by decide +kernel) rfl hi rfl hw hd (fun r M' h => by obtain ⟨x, rfl, h⟩ := h; exact k x M' h)
theorem qm_X9_91 : Cond.methodLinkNest "CostsAge" 91 yX3_append "CostsAge" ∈ lw_tbl := tb 300 (by decide +kernel)
theorem call_X9_91 (C : CX p s m args c cc nL "CostsAge" D cy ad G A R d cells slots) {i : Nat} {v1 : Value} {Qf : Int32 → wS → Prop} (hM : Ctr l D cy ad G d2 yX3_append cX3_append 2 (some .boolean) [.ref (ad 11 i), v1] M (rI Qf)) (hd2 : d2 + 1 ≤ d) (hg : wG G 11 i) (hw : (st.map fun v => v.category).sum ≤ 8) (hd : decode cc pc = .ok (.invokevirtual 91, 3)) (k : ∀ x M', Qf x M' → V p l e R s m args below meth c nL D cy ad G A cells slots Q (pc + 3) lv (.int x :: st) M') : V p l e R s m args below meth c nL D cy ad G A cells slots Q pc lv (v1 :: .ref (ad 11 i) :: st) M :=
  V_callVN (n := 1) (As := [v1]) C hM hd2 (by decide) qc_X3_append qm_X9_91 qi_X3_append ql_X3_append qn_CostsAge_Reader (by decide +kernel) hg wF_11 rfl rfl hw hd (fun r M' h => by obtain ⟨x, rfl, h⟩ := h; exact k x M' h)
theorem qm_X9_95 : Cond.methodLinkNest "CostsAge" 95 yX3_compile "CostsAge" ∈ lw_tbl := tb 304 (by decide +kernel)
theorem call_X9_95 (C : CX p s m args c cc nL "CostsAge" D cy ad G A R d cells slots) {i : Nat} {v1 : Value} {Qf : Int32 → wS → Prop} (hM : Ctr l D cy ad G d2 yX3_compile cX3_compile 2 (some .int) [.ref (ad 11 i), v1] M (rI Qf)) (hd2 : d2 + 1 ≤ d) (hg : wG G 11 i) (hw : (st.map fun v => v.category).sum ≤ 8) (hd : decode cc pc = .ok (.invokevirtual 95, 3)) (k : ∀ x M', Qf x M' → V p l e R s m args below meth c nL D cy ad G A cells slots Q (pc + 3) lv (.int x :: st) M') : V p l e R s m args below meth c nL D cy ad G A cells slots Q pc lv (v1 :: .ref (ad 11 i) :: st) M :=
  V_callVN (n := 1) (As := [v1]) C hM hd2 (by decide) qc_X3_compile qm_X9_95 qi_X3_compile ql_X3_compile qn_CostsAge_Reader (by decide +kernel) hg wF_11 rfl rfl hw hd (fun r M' h => by obtain ⟨x, rfl, h⟩ := h; exact k x M' h)
theorem qm_X9_102 : Cond.methodLink "CostsAge" 102 yX9_isWithin ∈ lw_good := tg (tb 439 (by decide +kernel)) rfl
theorem call_X9_102 (C : CX p s m args c cc nL "CostsAge" D cy ad G A R d cells slots) {v1 v2 : Value} {Qf : Int32 → wS → Prop} (hM : Ctr l D cy ad G d2 yX9_isWithin cX9_isWithin 2 (some .boolean) [v1, v2] M (rI Qf)) (hd2 : d2 + 1 ≤ d) (hw : (st.map fun v => v.category).sum ≤ 8) (hd : decode cc pc = .ok (.invokestatic 102, 3)) (k : ∀ x M', Qf x M' → V p l e R s m args below meth c nL D cy ad G A cells slots Q (pc + 3) lv (.int x :: st) M') : V p l e R s m args below meth c nL D cy ad G A cells slots Q pc lv (v2 :: v1 :: st) M :=
  V_callS (n := 2) (As := [v1, v2]) C hM hd2 (by decide) qc_X9_isWithin qm_X9_102 qs_X9_isWithin qn_CostsAge (by decide +kernel) rfl hw hd (fun r M' h => by obtain ⟨x, rfl, h⟩ := h; exact k x M' h)
theorem qm_X9_136 : Cond.methodLink "CostsAge" 136 yX9_isBuyer ∈ lw_good := tg (tb 450 (by decide +kernel)) rfl
theorem call_X9_136 (C : CX p s m args c cc nL "CostsAge" D cy ad G A R d cells slots) {i : Nat} {v1 : Value} {Qf : Int32 → wS → Prop} (hM : Ctr l D cy ad G d2 yX9_isBuyer cX9_isBuyer 2 (some .boolean) [.ref (ad 0 i), v1] M (rI Qf)) (hd2 : d2 + 1 ≤ d) (hg : wG G 0 i) (hw : (st.map fun v => v.category).sum ≤ 8) (hd : decode cc pc = .ok (.invokevirtual 136, 3)) (k : ∀ x M', Qf x M' → V p l e R s m args below meth c nL D cy ad G A cells slots Q (pc + 3) lv (.int x :: st) M') : V p l e R s m args below meth c nL D cy ad G A cells slots Q pc lv (v1 :: .ref (ad 0 i) :: st) M :=
  V_callV (n := 1) (As := [v1]) C hM hd2 (by decide) qc_X9_isBuyer qm_X9_136 qi_X9_isBuyer ql_X9_isBuyer qn_CostsAge (by decide +kernel) hg wF_0 rfl rfl hw hd (fun r M' h => by obtain ⟨x, rfl, h⟩ := h; exact k x M' h)
theorem qm_X9_139 : Cond.methodLink "CostsAge" 139 yX9_exchange ∈ lw_good := tg (tb 454 (by decide +kernel)) rfl
theorem call_X9_139 (C : CX p s m args c cc nL "CostsAge" D cy ad G A R d cells slots) {v1 v2 v3 : Value} {Qf : Int32 → wS → Prop} (hM : Ctr l D cy ad G d2 yX9_exchange cX9_exchange 4 (some .int) [v1, v2, v3] M (rI Qf)) (hd2 : d2 + 1 ≤ d) (hw : (st.map fun v => v.category).sum ≤ 8) (hd : decode cc pc = .ok (.invokestatic 139, 3)) (k : ∀ x M', Qf x M' → V p l e R s m args below meth c nL D cy ad G A cells slots Q (pc + 3) lv (.int x :: st) M') : V p l e R s m args below meth c nL D cy ad G A cells slots Q pc lv (v3 :: v2 :: v1 :: st) M :=
  V_callS (n := 3) (As := [v1, v2, v3]) C hM hd2 (by decide) qc_X9_exchange qm_X9_139 qs_X9_exchange qn_CostsAge (by decide +kernel) rfl hw hd (fun r M' h => by obtain ⟨x, rfl, h⟩ := h; exact k x M' h)
theorem qm_X9_143 : Cond.methodLinkNest "CostsAge" 143 yX0_moveBirthday "CostsAge" ∈ lw_tbl := tb 457 (by decide +kernel)
theorem call_X9_143 (C : CX p s m args c cc nL "CostsAge" D cy ad G A R d cells slots) {i : Nat} {v1 : Value} {Qf : Int32 → wS → Prop} (hM : Ctr l D cy ad G d2 yX0_moveBirthday cX0_moveBirthday 3 (some .int) [.ref (ad 5 i), v1] M (rI Qf)) (hd2 : d2 + 1 ≤ d) (hg : wG G 5 i) (hw : (st.map fun v => v.category).sum ≤ 8) (hd : decode cc pc = .ok (.invokevirtual 143, 3)) (k : ∀ x M', Qf x M' → V p l e R s m args below meth c nL D cy ad G A cells slots Q (pc + 3) lv (.int x :: st) M') : V p l e R s m args below meth c nL D cy ad G A cells slots Q pc lv (v1 :: .ref (ad 5 i) :: st) M :=
  V_callVN (n := 1) (As := [v1]) C hM hd2 (by decide) qc_X0_moveBirthday qm_X9_143 qi_X0_moveBirthday ql_X0_moveBirthday qn_CostsAge_Buyer (by decide +kernel) hg wF_5 rfl rfl hw hd (fun r M' h => by obtain ⟨x, rfl, h⟩ := h; exact k x M' h)
theorem qm_X9_147 : Cond.methodLink "CostsAge" 147 yX9_isWare ∈ lw_good := tg (tb 461 (by decide +kernel)) rfl
theorem call_X9_147 (C : CX p s m args c cc nL "CostsAge" D cy ad G A R d cells slots) {i : Nat} {v1 : Value} {Qf : Int32 → wS → Prop} (hM : Ctr l D cy ad G d2 yX9_isWare cX9_isWare 2 (some .boolean) [.ref (ad 0 i), v1] M (rI Qf)) (hd2 : d2 + 1 ≤ d) (hg : wG G 0 i) (hw : (st.map fun v => v.category).sum ≤ 8) (hd : decode cc pc = .ok (.invokevirtual 147, 3)) (k : ∀ x M', Qf x M' → V p l e R s m args below meth c nL D cy ad G A cells slots Q (pc + 3) lv (.int x :: st) M') : V p l e R s m args below meth c nL D cy ad G A cells slots Q pc lv (v1 :: .ref (ad 0 i) :: st) M :=
  V_callV (n := 1) (As := [v1]) C hM hd2 (by decide) qc_X9_isWare qm_X9_147 qi_X9_isWare ql_X9_isWare qn_CostsAge (by decide +kernel) hg wF_0 rfl rfl hw hd (fun r M' h => by obtain ⟨x, rfl, h⟩ := h; exact k x M' h)
theorem qm_X9_150 : Cond.methodLink "CostsAge" 150 yX9_changeCarry ∈ lw_good := tg (tb 465 (by decide +kernel)) rfl
theorem call_X9_150 (C : CX p s m args c cc nL "CostsAge" D cy ad G A R d cells slots) {i : Nat} {v1 : Value} {Qf : Int32 → wS → Prop} (hM : Ctr l D cy ad G d2 yX9_changeCarry cX9_changeCarry 3 (some .int) [.ref (ad 0 i), v1] M (rI Qf)) (hd2 : d2 + 1 ≤ d) (hg : wG G 0 i) (hw : (st.map fun v => v.category).sum ≤ 8) (hd : decode cc pc = .ok (.invokevirtual 150, 3)) (k : ∀ x M', Qf x M' → V p l e R s m args below meth c nL D cy ad G A cells slots Q (pc + 3) lv (.int x :: st) M') : V p l e R s m args below meth c nL D cy ad G A cells slots Q pc lv (v1 :: .ref (ad 0 i) :: st) M :=
  V_callV (n := 1) (As := [v1]) C hM hd2 (by decide) qc_X9_changeCarry qm_X9_150 qi_X9_changeCarry ql_X9_changeCarry qn_CostsAge (by decide +kernel) hg wF_0 rfl rfl hw hd (fun r M' h => by obtain ⟨x, rfl, h⟩ := h; exact k x M' h)
theorem qm_X9_153 : Cond.methodLink "CostsAge" 153 yX9_tellOfBuyer ∈ lw_good := tg (tb 473 (by decide +kernel)) rfl
theorem call_X9_153 (C : CX p s m args c cc nL "CostsAge" D cy ad G A R d cells slots) {i : Nat} {v1 v2 : Value} {Qf : Int32 → wS → Prop} (hM : Ctr l D cy ad G d2 yX9_tellOfBuyer cX9_tellOfBuyer 4 (some .int) [.ref (ad 0 i), v1, v2] M (rI Qf)) (hd2 : d2 + 1 ≤ d) (hg : wG G 0 i) (hw : (st.map fun v => v.category).sum ≤ 8) (hd : decode cc pc = .ok (.invokevirtual 153, 3)) (k : ∀ x M', Qf x M' → V p l e R s m args below meth c nL D cy ad G A cells slots Q (pc + 3) lv (.int x :: st) M') : V p l e R s m args below meth c nL D cy ad G A cells slots Q pc lv (v2 :: v1 :: .ref (ad 0 i) :: st) M :=
  V_callV (n := 2) (As := [v1, v2]) C hM hd2 (by decide) qc_X9_tellOfBuyer qm_X9_153 qi_X9_tellOfBuyer ql_X9_tellOfBuyer qn_CostsAge (by decide +kernel) hg wF_0 rfl rfl hw hd (fun r M' h => by obtain ⟨x, rfl, h⟩ := h; exact k x M' h)
theorem qm_X9_157 : Cond.methodLink "CostsAge" 157 yX9_tellOfWare ∈ lw_good := tg (tb 488 (by decide +kernel)) rfl
theorem call_X9_157 (C : CX p s m args c cc nL "CostsAge" D cy ad G A R d cells slots) {i : Nat} {v1 v2 : Value} {Qf : Int32 → wS → Prop} (hM : Ctr l D cy ad G d2 yX9_tellOfWare cX9_tellOfWare 3 (some .int) [.ref (ad 0 i), v1, v2] M (rI Qf)) (hd2 : d2 + 1 ≤ d) (hg : wG G 0 i) (hw : (st.map fun v => v.category).sum ≤ 8) (hd : decode cc pc = .ok (.invokevirtual 157, 3)) (k : ∀ x M', Qf x M' → V p l e R s m args below meth c nL D cy ad G A cells slots Q (pc + 3) lv (.int x :: st) M') : V p l e R s m args below meth c nL D cy ad G A cells slots Q pc lv (v2 :: v1 :: .ref (ad 0 i) :: st) M :=
  V_callV (n := 2) (As := [v1, v2]) C hM hd2 (by decide) qc_X9_tellOfWare qm_X9_157 qi_X9_tellOfWare ql_X9_tellOfWare qn_CostsAge (by decide +kernel) hg wF_0 rfl rfl hw hd (fun r M' h => by obtain ⟨x, rfl, h⟩ := h; exact k x M' h)
theorem qm_X9_163 : Cond.methodLinkNest "CostsAge" 163 yX0_penceAt "CostsAge" ∈ lw_tbl := tb 477 (by decide +kernel)
theorem call_X9_163 (C : CX p s m args c cc nL "CostsAge" D cy ad G A R d cells slots) {i : Nat} {v1 v2 : Value} {Qf : Int32 → wS → Prop} (hM : Ctr l D cy ad G d2 yX0_penceAt cX0_penceAt 5 (some .int) [.ref (ad 5 i), v1, v2] M (rI Qf)) (hd2 : d2 + 1 ≤ d) (hg : wG G 5 i) (hw : (st.map fun v => v.category).sum ≤ 8) (hd : decode cc pc = .ok (.invokevirtual 163, 3)) (k : ∀ x M', Qf x M' → V p l e R s m args below meth c nL D cy ad G A cells slots Q (pc + 3) lv (.int x :: st) M') : V p l e R s m args below meth c nL D cy ad G A cells slots Q pc lv (v2 :: v1 :: .ref (ad 5 i) :: st) M :=
  V_callVN (n := 2) (As := [v1, v2]) C hM hd2 (by decide) qc_X0_penceAt qm_X9_163 qi_X0_penceAt ql_X0_penceAt qn_CostsAge_Buyer (by decide +kernel) hg wF_5 rfl rfl hw hd (fun r M' h => by obtain ⟨x, rfl, h⟩ := h; exact k x M' h)
theorem qm_X9_166 : Cond.methodLinkNest "CostsAge" 166 yX0_asksBy "CostsAge" ∈ lw_tbl := tb 484 (by decide +kernel)
theorem call_X9_166 (C : CX p s m args c cc nL "CostsAge" D cy ad G A R d cells slots) {i : Nat} {v1 : Value} {Qf : Int32 → wS → Prop} (hM : Ctr l D cy ad G d2 yX0_asksBy cX0_asksBy 2 (some .int) [.ref (ad 5 i), v1] M (rI Qf)) (hd2 : d2 + 1 ≤ d) (hg : wG G 5 i) (hw : (st.map fun v => v.category).sum ≤ 8) (hd : decode cc pc = .ok (.invokevirtual 166, 3)) (k : ∀ x M', Qf x M' → V p l e R s m args below meth c nL D cy ad G A cells slots Q (pc + 3) lv (.int x :: st) M') : V p l e R s m args below meth c nL D cy ad G A cells slots Q pc lv (v1 :: .ref (ad 5 i) :: st) M :=
  V_callVN (n := 1) (As := [v1]) C hM hd2 (by decide) qc_X0_asksBy qm_X9_166 qi_X0_asksBy ql_X0_asksBy qn_CostsAge_Buyer (by decide +kernel) hg wF_5 rfl rfl hw hd (fun r M' h => by obtain ⟨x, rfl, h⟩ := h; exact k x M' h)
theorem qm_X9_176 : Cond.methodLinkNest "CostsAge" 176 yX0_ageIn "CostsAge" ∈ lw_tbl := tb 508 (by decide +kernel)
theorem call_X9_176 (C : CX p s m args c cc nL "CostsAge" D cy ad G A R d cells slots) {i : Nat} {v1 v2 v3 : Value} {Qf : Int32 → wS → Prop} (hM : Ctr l D cy ad G d2 yX0_ageIn cX0_ageIn 6 (some .int) [.ref (ad 5 i), v1, v2, v3] M (rI Qf)) (hd2 : d2 + 1 ≤ d) (hg : wG G 5 i) (hw : (st.map fun v => v.category).sum ≤ 8) (hd : decode cc pc = .ok (.invokevirtual 176, 3)) (k : ∀ x M', Qf x M' → V p l e R s m args below meth c nL D cy ad G A cells slots Q (pc + 3) lv (.int x :: st) M') : V p l e R s m args below meth c nL D cy ad G A cells slots Q pc lv (v3 :: v2 :: v1 :: .ref (ad 5 i) :: st) M :=
  V_callVN (n := 3) (As := [v1, v2, v3]) C hM hd2 (by decide) qc_X0_ageIn qm_X9_176 qi_X0_ageIn ql_X0_ageIn qn_CostsAge_Buyer (by decide +kernel) hg wF_5 rfl rfl hw hd (fun r M' h => by obtain ⟨x, rfl, h⟩ := h; exact k x M' h)
theorem qm_X9_180 : Cond.methodLink "CostsAge" 180 yX9_tie ∈ lw_good := tg (tb 519 (by decide +kernel)) rfl
theorem call_X9_180 (C : CX p s m args c cc nL "CostsAge" D cy ad G A R d cells slots) {i : Nat} {v1 : Value} {Qf : Int32 → wS → Prop} (hM : Ctr l D cy ad G d2 yX9_tie cX9_tie 7 (some .boolean) [.ref (ad 0 i), v1] M (rI Qf)) (hd2 : d2 + 1 ≤ d) (hg : wG G 0 i) (hw : (st.map fun v => v.category).sum ≤ 8) (hd : decode cc pc = .ok (.invokevirtual 180, 3)) (k : ∀ x M', Qf x M' → V p l e R s m args below meth c nL D cy ad G A cells slots Q (pc + 3) lv (.int x :: st) M') : V p l e R s m args below meth c nL D cy ad G A cells slots Q pc lv (v1 :: .ref (ad 0 i) :: st) M :=
  V_callV (n := 1) (As := [v1]) C hM hd2 (by decide) qc_X9_tie qm_X9_180 qi_X9_tie ql_X9_tie qn_CostsAge (by decide +kernel) hg wF_0 rfl rfl hw hd (fun r M' h => by obtain ⟨x, rfl, h⟩ := h; exact k x M' h)
theorem qm_X9_183 : Cond.methodLink "CostsAge" 183 yX9_costBy ∈ lw_good := tg (tb 534 (by decide +kernel)) rfl
theorem call_X9_183 (C : CX p s m args c cc nL "CostsAge" D cy ad G A R d cells slots) {i : Nat} {v1 v2 v3 : Value} {Qf : Int32 → wS → Prop} (hM : Ctr l D cy ad G d2 yX9_costBy cX9_costBy 5 (some .int) [.ref (ad 0 i), v1, v2, v3] M (rI Qf)) (hd2 : d2 + 1 ≤ d) (hg : wG G 0 i) (hw : (st.map fun v => v.category).sum ≤ 8) (hd : decode cc pc = .ok (.invokevirtual 183, 3)) (k : ∀ x M', Qf x M' → V p l e R s m args below meth c nL D cy ad G A cells slots Q (pc + 3) lv (.int x :: st) M') : V p l e R s m args below meth c nL D cy ad G A cells slots Q pc lv (v3 :: v2 :: v1 :: .ref (ad 0 i) :: st) M :=
  V_callV (n := 3) (As := [v1, v2, v3]) C hM hd2 (by decide) qc_X9_costBy qm_X9_183 qi_X9_costBy ql_X9_costBy qn_CostsAge (by decide +kernel) hg wF_0 rfl rfl hw hd (fun r M' h => by obtain ⟨x, rfl, h⟩ := h; exact k x M' h)
theorem qm_X9_186 : Cond.methodLink "CostsAge" 186 yX9_leastCost ∈ lw_good := tg (tb 558 (by decide +kernel)) rfl
theorem call_X9_186 (C : CX p s m args c cc nL "CostsAge" D cy ad G A R d cells slots) {i : Nat} {v1 : Value} {Qf : Int32 → wS → Prop} (hM : Ctr l D cy ad G d2 yX9_leastCost cX9_leastCost 5 (some .int) [.ref (ad 0 i), v1] M (rI Qf)) (hd2 : d2 + 1 ≤ d) (hg : wG G 0 i) (hw : (st.map fun v => v.category).sum ≤ 8) (hd : decode cc pc = .ok (.invokevirtual 186, 3)) (k : ∀ x M', Qf x M' → V p l e R s m args below meth c nL D cy ad G A cells slots Q (pc + 3) lv (.int x :: st) M') : V p l e R s m args below meth c nL D cy ad G A cells slots Q pc lv (v1 :: .ref (ad 0 i) :: st) M :=
  V_callV (n := 1) (As := [v1]) C hM hd2 (by decide) qc_X9_leastCost qm_X9_186 qi_X9_leastCost ql_X9_leastCost qn_CostsAge (by decide +kernel) hg wF_0 rfl rfl hw hd (fun r M' h => by obtain ⟨x, rfl, h⟩ := h; exact k x M' h)
theorem qm_X9_189 : Cond.methodLink "CostsAge" 189 yX9_firstBuyerFor ∈ lw_good := tg (tb 562 (by decide +kernel)) rfl
theorem call_X9_189 (C : CX p s m args c cc nL "CostsAge" D cy ad G A R d cells slots) {i : Nat} {v1 v2 : Value} {Qf : Int32 → wS → Prop} (hM : Ctr l D cy ad G d2 yX9_firstBuyerFor cX9_firstBuyerFor 4 (some .int) [.ref (ad 0 i), v1, v2] M (rI Qf)) (hd2 : d2 + 1 ≤ d) (hg : wG G 0 i) (hw : (st.map fun v => v.category).sum ≤ 8) (hd : decode cc pc = .ok (.invokevirtual 189, 3)) (k : ∀ x M', Qf x M' → V p l e R s m args below meth c nL D cy ad G A cells slots Q (pc + 3) lv (.int x :: st) M') : V p l e R s m args below meth c nL D cy ad G A cells slots Q pc lv (v2 :: v1 :: .ref (ad 0 i) :: st) M :=
  V_callV (n := 2) (As := [v1, v2]) C hM hd2 (by decide) qc_X9_firstBuyerFor qm_X9_189 qi_X9_firstBuyerFor ql_X9_firstBuyerFor qn_CostsAge (by decide +kernel) hg wF_0 rfl rfl hw hd (fun r M' h => by obtain ⟨x, rfl, h⟩ := h; exact k x M' h)
theorem qm_X9_192 : Cond.methodLink "CostsAge" 192 yX9_showAlone ∈ lw_good := tg (tb 570 (by decide +kernel)) rfl
theorem call_X9_192 (C : CX p s m args c cc nL "CostsAge" D cy ad G A R d cells slots) {i : Nat} {v1 : Value} {Qf : Int32 → wS → Prop} (hM : Ctr l D cy ad G d2 yX9_showAlone cX9_showAlone 2 (some .boolean) [.ref (ad 0 i), v1] M (rI Qf)) (hd2 : d2 + 1 ≤ d) (hg : wG G 0 i) (hw : (st.map fun v => v.category).sum ≤ 8) (hd : decode cc pc = .ok (.invokevirtual 192, 3)) (k : ∀ x M', Qf x M' → V p l e R s m args below meth c nL D cy ad G A cells slots Q (pc + 3) lv (.int x :: st) M') : V p l e R s m args below meth c nL D cy ad G A cells slots Q pc lv (v1 :: .ref (ad 0 i) :: st) M :=
  V_callV (n := 1) (As := [v1]) C hM hd2 (by decide) qc_X9_showAlone qm_X9_192 qi_X9_showAlone ql_X9_showAlone qn_CostsAge (by decide +kernel) hg wF_0 rfl rfl hw hd (fun r M' h => by obtain ⟨x, rfl, h⟩ := h; exact k x M' h)
theorem qm_X9_195 : Cond.methodLink "CostsAge" 195 yX9_priceBy ∈ lw_good := tg (tb 538 (by decide +kernel)) rfl
theorem call_X9_195 (C : CX p s m args c cc nL "CostsAge" D cy ad G A R d cells slots) {i : Nat} {v1 v2 v3 : Value} {Qf : Int32 → wS → Prop} (hM : Ctr l D cy ad G d2 yX9_priceBy cX9_priceBy 8 (some .int) [.ref (ad 0 i), v1, v2, v3] M (rI Qf)) (hd2 : d2 + 1 ≤ d) (hg : wG G 0 i) (hw : (st.map fun v => v.category).sum ≤ 8) (hd : decode cc pc = .ok (.invokevirtual 195, 3)) (k : ∀ x M', Qf x M' → V p l e R s m args below meth c nL D cy ad G A cells slots Q (pc + 3) lv (.int x :: st) M') : V p l e R s m args below meth c nL D cy ad G A cells slots Q pc lv (v3 :: v2 :: v1 :: .ref (ad 0 i) :: st) M :=
  V_callV (n := 3) (As := [v1, v2, v3]) C hM hd2 (by decide) qc_X9_priceBy qm_X9_195 qi_X9_priceBy ql_X9_priceBy qn_CostsAge (by decide +kernel) hg wF_0 rfl rfl hw hd (fun r M' h => by obtain ⟨x, rfl, h⟩ := h; exact k x M' h)
theorem qm_X9_204 : Cond.methodLink "CostsAge" 204 Lib.Math.min.name ∈ lw_good := tg (tb 552 (by decide +kernel)) rfl
theorem qm_X9_209 : Cond.methodLink "CostsAge" 209 yX9_has ∈ lw_good := tg (tb 527 (by decide +kernel)) rfl
theorem call_X9_209 (C : CX p s m args c cc nL "CostsAge" D cy ad G A R d cells slots) {v1 v2 : Value} {Qf : Int32 → wS → Prop} (hM : Ctr l D cy ad G d2 yX9_has cX9_has 2 (some .boolean) [v1, v2] M (rI Qf)) (hd2 : d2 + 1 ≤ d) (hw : (st.map fun v => v.category).sum ≤ 8) (hd : decode cc pc = .ok (.invokestatic 209, 3)) (k : ∀ x M', Qf x M' → V p l e R s m args below meth c nL D cy ad G A cells slots Q (pc + 3) lv (.int x :: st) M') : V p l e R s m args below meth c nL D cy ad G A cells slots Q pc lv (v2 :: v1 :: st) M :=
  V_callS (n := 2) (As := [v1, v2]) C hM hd2 (by decide) qc_X9_has qm_X9_209 qs_X9_has qn_CostsAge (by decide +kernel) rfl hw hd (fun r M' h => by obtain ⟨x, rfl, h⟩ := h; exact k x M' h)
theorem qm_X9_212 : Cond.methodLinkNest "CostsAge" 212 yX4_show "CostsAge" ∈ lw_tbl := tb 530 (by decide +kernel)
theorem call_X9_212 (C : CX p s m args c cc nL "CostsAge" D cy ad G A R d cells slots) {i : Nat} {v1 v2 v3 : Value} {Qf : wS → Prop} (hM : Ctr l D cy ad G d2 yX4_show cX4_show 4 none [.ref (ad 13 i), v1, v2, v3] M (rV Qf)) (hd2 : d2 + 1 ≤ d) (hg : wG G 13 i) (hw : (st.map fun v => v.category).sum ≤ 8) (hd : decode cc pc = .ok (.invokevirtual 212, 3)) (k : ∀ M', Qf M' → V p l e R s m args below meth c nL D cy ad G A cells slots Q (pc + 3) lv st M') : V p l e R s m args below meth c nL D cy ad G A cells slots Q pc lv (v3 :: v2 :: v1 :: .ref (ad 13 i) :: st) M :=
  V_callVN (n := 3) (As := [v1, v2, v3]) C hM hd2 (by decide) qc_X4_show qm_X9_212 qi_X4_show ql_X4_show qn_CostsAge_Scene (by decide +kernel) hg wF_13 rfl rfl hw hd (fun r M' h => by obtain ⟨rfl, h⟩ := h; exact k M' h)
theorem qm_X9_216 : Cond.methodLink "CostsAge" 216 yX9_unbought ∈ lw_good := tg (tb 523 (by decide +kernel)) rfl
theorem call_X9_216 (C : CX p s m args c cc nL "CostsAge" D cy ad G A R d cells slots) {i : Nat} {Qf : Int32 → wS → Prop} (hM : Ctr l D cy ad G d2 yX9_unbought cX9_unbought 1 (some .int) [.ref (ad 0 i)] M (rI Qf)) (hd2 : d2 + 1 ≤ d) (hg : wG G 0 i) (hw : (st.map fun v => v.category).sum ≤ 8) (hd : decode cc pc = .ok (.invokevirtual 216, 3)) (k : ∀ x M', Qf x M' → V p l e R s m args below meth c nL D cy ad G A cells slots Q (pc + 3) lv (.int x :: st) M') : V p l e R s m args below meth c nL D cy ad G A cells slots Q pc lv (.ref (ad 0 i) :: st) M :=
  V_callV (n := 0) (As := []) C hM hd2 (by decide) qc_X9_unbought qm_X9_216 qi_X9_unbought ql_X9_unbought qn_CostsAge (by decide +kernel) hg wF_0 rfl rfl hw hd (fun r M' h => by obtain ⟨x, rfl, h⟩ := h; exact k x M' h)
theorem qm_X9_231 : Cond.methodLinkNest "CostsAge" 231 yX4_worth "CostsAge" ∈ lw_tbl := tb 542 (by decide +kernel)
theorem call_X9_231 (C : CX p s m args c cc nL "CostsAge" D cy ad G A R d cells slots) {i : Nat} {v1 v2 v3 : Value} {Qf : Int32 → wS → Prop} (hM : Ctr l D cy ad G d2 yX4_worth cX4_worth 7 (some .int) [.ref (ad 13 i), v1, v2, v3] M (rI Qf)) (hd2 : d2 + 1 ≤ d) (hg : wG G 13 i) (hw : (st.map fun v => v.category).sum ≤ 8) (hd : decode cc pc = .ok (.invokevirtual 231, 3)) (k : ∀ x M', Qf x M' → V p l e R s m args below meth c nL D cy ad G A cells slots Q (pc + 3) lv (.int x :: st) M') : V p l e R s m args below meth c nL D cy ad G A cells slots Q pc lv (v3 :: v2 :: v1 :: .ref (ad 13 i) :: st) M :=
  V_callVN (n := 3) (As := [v1, v2, v3]) C hM hd2 (by decide) qc_X4_worth qm_X9_231 qi_X4_worth ql_X4_worth qn_CostsAge_Scene (by decide +kernel) hg wF_13 rfl rfl hw hd (fun r M' h => by obtain ⟨x, rfl, h⟩ := h; exact k x M' h)
theorem qm_X9_237 : Cond.methodLink "CostsAge" 237 yX9_held ∈ lw_good := tg (tb 549 (by decide +kernel)) rfl
theorem call_X9_237 (C : CX p s m args c cc nL "CostsAge" D cy ad G A R d cells slots) {v1 : Value} {Qf : Int32 → wS → Prop} (hM : Ctr l D cy ad G d2 yX9_held cX9_held 1 (some .int) [v1] M (rI Qf)) (hd2 : d2 + 1 ≤ d) (hw : (st.map fun v => v.category).sum ≤ 8) (hd : decode cc pc = .ok (.invokestatic 237, 3)) (k : ∀ x M', Qf x M' → V p l e R s m args below meth c nL D cy ad G A cells slots Q (pc + 3) lv (.int x :: st) M') : V p l e R s m args below meth c nL D cy ad G A cells slots Q pc lv (v1 :: st) M :=
  V_callS (n := 1) (As := [v1]) C hM hd2 (by decide) qc_X9_held qm_X9_237 qs_X9_held qn_CostsAge (by decide +kernel) rfl hw hd (fun r M' h => by obtain ⟨x, rfl, h⟩ := h; exact k x M' h)
theorem qm_X9_240 : Cond.methodLink "CostsAge" 240 Lib.Math.max.name ∈ lw_good := tg (tb 553 (by decide +kernel)) rfl
theorem qm_X9_243 : Cond.methodLink "CostsAge" 243 yX9_planAll ∈ lw_good := tg (tb 586 (by decide +kernel)) rfl
theorem call_X9_243 (C : CX p s m args c cc nL "CostsAge" D cy ad G A R d cells slots) {i : Nat} {Qf : wS → Prop} (hM : Ctr l D cy ad G d2 yX9_planAll cX9_planAll 3 none [.ref (ad 0 i)] M (rV Qf)) (hd2 : d2 + 1 ≤ d) (hg : wG G 0 i) (hw : (st.map fun v => v.category).sum ≤ 8) (hd : decode cc pc = .ok (.invokevirtual 243, 3)) (k : ∀ M', Qf M' → V p l e R s m args below meth c nL D cy ad G A cells slots Q (pc + 3) lv st M') : V p l e R s m args below meth c nL D cy ad G A cells slots Q pc lv (.ref (ad 0 i) :: st) M :=
  V_callV (n := 0) (As := []) C hM hd2 (by decide) qc_X9_planAll qm_X9_243 qi_X9_planAll ql_X9_planAll qn_CostsAge (by decide +kernel) hg wF_0 rfl rfl hw hd (fun r M' h => by obtain ⟨rfl, h⟩ := h; exact k M' h)
theorem qm_X9_252 : Cond.methodLinkNest "CostsAge" 252 yX2_heapOf "CostsAge" ∈ lw_tbl := tb 608 (by decide +kernel)
theorem call_X9_252 (C : CX p s m args c cc nL "CostsAge" D cy ad G A R d cells slots) {i : Nat} {v1 v2 : Value} {Qf : Int32 → wS → Prop} (hM : Ctr l D cy ad G d2 yX2_heapOf cX2_heapOf 5 (some .int) [.ref (ad 16 i), v1, v2] M (rI Qf)) (hd2 : d2 + 1 ≤ d) (hg : wG G 16 i) (hw : (st.map fun v => v.category).sum ≤ 8) (hd : decode cc pc = .ok (.invokevirtual 252, 3)) (k : ∀ x M', Qf x M' → V p l e R s m args below meth c nL D cy ad G A cells slots Q (pc + 3) lv (.int x :: st) M') : V p l e R s m args below meth c nL D cy ad G A cells slots Q pc lv (v2 :: v1 :: .ref (ad 16 i) :: st) M :=
  V_callVN (n := 2) (As := [v1, v2]) C hM hd2 (by decide) qc_X2_heapOf qm_X9_252 qi_X2_heapOf ql_X2_heapOf qn_CostsAge_Plan (by decide +kernel) hg wF_16 rfl rfl hw hd (fun r M' h => by obtain ⟨x, rfl, h⟩ := h; exact k x M' h)
theorem qm_X9_258 : Cond.methodLinkNest "CostsAge" 258 yX2_choose "CostsAge" ∈ lw_tbl := tb 590 (by decide +kernel)
theorem call_X9_258 (C : CX p s m args c cc nL "CostsAge" D cy ad G A R d cells slots) {i : Nat} {v1 : Value} {Qf : wS → Prop} (hM : Ctr l D cy ad G d2 yX2_choose cX2_choose 6 none [.ref (ad 16 i), v1] M (rV Qf)) (hd2 : d2 + 1 ≤ d) (hg : wG G 16 i) (hw : (st.map fun v => v.category).sum ≤ 8) (hd : decode cc pc = .ok (.invokevirtual 258, 3)) (k : ∀ M', Qf M' → V p l e R s m args below meth c nL D cy ad G A cells slots Q (pc + 3) lv st M') : V p l e R s m args below meth c nL D cy ad G A cells slots Q pc lv (v1 :: .ref (ad 16 i) :: st) M :=
  V_callVN (n := 1) (As := [v1]) C hM hd2 (by decide) qc_X2_choose qm_X9_258 qi_X2_choose ql_X2_choose qn_CostsAge_Plan (by decide +kernel) hg wF_16 rfl rfl hw hd (fun r M' h => by obtain ⟨rfl, h⟩ := h; exact k M' h)
theorem qm_X9_262 : Cond.methodLink "CostsAge" 262 yX9_fillCosts ∈ lw_good := tg (tb 617 (by decide +kernel)) rfl
theorem call_X9_262 (C : CX p s m args c cc nL "CostsAge" D cy ad G A R d cells slots) {i : Nat} {Qf : wS → Prop} (hM : Ctr l D cy ad G d2 yX9_fillCosts cX9_fillCosts 2 none [.ref (ad 0 i)] M (rV Qf)) (hd2 : d2 + 1 ≤ d) (hg : wG G 0 i) (hw : (st.map fun v => v.category).sum ≤ 8) (hd : decode cc pc = .ok (.invokevirtual 262, 3)) (k : ∀ M', Qf M' → V p l e R s m args below meth c nL D cy ad G A cells slots Q (pc + 3) lv st M') : V p l e R s m args below meth c nL D cy ad G A cells slots Q pc lv (.ref (ad 0 i) :: st) M :=
  V_callV (n := 0) (As := []) C hM hd2 (by decide) qc_X9_fillCosts qm_X9_262 qi_X9_fillCosts ql_X9_fillCosts qn_CostsAge (by decide +kernel) hg wF_0 rfl rfl hw hd (fun r M' h => by obtain ⟨rfl, h⟩ := h; exact k M' h)
theorem qm_X9_265 : Cond.methodLink "CostsAge" 265 yJ6_bitCount_0f7a4 ∈ lw_good := tg (tb 625 (by decide +kernel)) rfl
theorem call_X9_265 (C : CX p s m args c cc nL "CostsAge" D cy ad G A R d cells slots) {v1 : Value} {Qf : Int32 → wS → Prop} (hM : Ctr l D cy ad G d2 yJ6_bitCount_0f7a4 cJ6_bitCount_0f7a4 1 (some .int) [v1] M (rI Qf)) (hd2 : d2 + 1 ≤ d) (hw : (st.map fun v => v.category).sum ≤ 8) (hd : decode cc pc = .ok (.invokestatic 265, 3)) (k : ∀ x M', Qf x M' → V p l e R s m args below meth c nL D cy ad G A cells slots Q (pc + 3) lv (.int x :: st) M') : V p l e R s m args below meth c nL D cy ad G A cells slots Q pc lv (v1 :: st) M :=
  V_callS (n := 1) (As := [v1]) C hM hd2 (by decide) qc_J6_bitCount_0f7a4 qm_X9_265 qs_J6_bitCount_0f7a4 qn_java_lang_Integer (by decide +kernel) rfl hw hd (fun r M' h => by obtain ⟨x, rfl, h⟩ := h; exact k x M' h)
theorem qm_X9_270 : Cond.methodLink "CostsAge" 270 yX9_crewCost ∈ lw_good := tg (tb 626 (by decide +kernel)) rfl
theorem call_X9_270 (C : CX p s m args c cc nL "CostsAge" D cy ad G A R d cells slots) {i : Nat} {v1 v2 v3 : Value} {Qf : Int32 → wS → Prop} (hM : Ctr l D cy ad G d2 yX9_crewCost cX9_crewCost 10 (some .int) [.ref (ad 0 i), v1, v2, v3] M (rI Qf)) (hd2 : d2 + 1 ≤ d) (hg : wG G 0 i) (hw : (st.map fun v => v.category).sum ≤ 8) (hd : decode cc pc = .ok (.invokevirtual 270, 3)) (k : ∀ x M', Qf x M' → V p l e R s m args below meth c nL D cy ad G A cells slots Q (pc + 3) lv (.int x :: st) M') : V p l e R s m args below meth c nL D cy ad G A cells slots Q pc lv (v3 :: v2 :: v1 :: .ref (ad 0 i) :: st) M :=
  V_callV (n := 3) (As := [v1, v2, v3]) C hM hd2 (by decide) qc_X9_crewCost qm_X9_270 qi_X9_crewCost ql_X9_crewCost qn_CostsAge (by decide +kernel) hg wF_0 rfl rfl hw hd (fun r M' h => by obtain ⟨x, rfl, h⟩ := h; exact k x M' h)
theorem qm_X9_276 : Cond.methodLink "CostsAge" 276 yX9_nthOf ∈ lw_good := tg (tb 630 (by decide +kernel)) rfl
theorem call_X9_276 (C : CX p s m args c cc nL "CostsAge" D cy ad G A R d cells slots) {i : Nat} {v1 v2 : Value} {Qf : Int32 → wS → Prop} (hM : Ctr l D cy ad G d2 yX9_nthOf cX9_nthOf 5 (some .int) [.ref (ad 0 i), v1, v2] M (rI Qf)) (hd2 : d2 + 1 ≤ d) (hg : wG G 0 i) (hw : (st.map fun v => v.category).sum ≤ 8) (hd : decode cc pc = .ok (.invokevirtual 276, 3)) (k : ∀ x M', Qf x M' → V p l e R s m args below meth c nL D cy ad G A cells slots Q (pc + 3) lv (.int x :: st) M') : V p l e R s m args below meth c nL D cy ad G A cells slots Q pc lv (v2 :: v1 :: .ref (ad 0 i) :: st) M :=
  V_callV (n := 2) (As := [v1, v2]) C hM hd2 (by decide) qc_X9_nthOf qm_X9_276 qi_X9_nthOf ql_X9_nthOf qn_CostsAge (by decide +kernel) hg wF_0 rfl rfl hw hd (fun r M' h => by obtain ⟨x, rfl, h⟩ := h; exact k x M' h)
theorem qm_X9_284 : Cond.methodLink "CostsAge" 284 yX9_gainsNow ∈ lw_good := tg (tb 639 (by decide +kernel)) rfl
theorem call_X9_284 (C : CX p s m args c cc nL "CostsAge" D cy ad G A R d cells slots) {i : Nat} {Qf : Int32 → wS → Prop} (hM : Ctr l D cy ad G d2 yX9_gainsNow cX9_gainsNow 2 (some .int) [.ref (ad 0 i)] M (rI Qf)) (hd2 : d2 + 1 ≤ d) (hg : wG G 0 i) (hw : (st.map fun v => v.category).sum ≤ 8) (hd : decode cc pc = .ok (.invokevirtual 284, 3)) (k : ∀ x M', Qf x M' → V p l e R s m args below meth c nL D cy ad G A cells slots Q (pc + 3) lv (.int x :: st) M') : V p l e R s m args below meth c nL D cy ad G A cells slots Q pc lv (.ref (ad 0 i) :: st) M :=
  V_callV (n := 0) (As := []) C hM hd2 (by decide) qc_X9_gainsNow qm_X9_284 qi_X9_gainsNow ql_X9_gainsNow qn_CostsAge (by decide +kernel) hg wF_0 rfl rfl hw hd (fun r M' h => by obtain ⟨x, rfl, h⟩ := h; exact k x M' h)
theorem qm_X9_290 : Cond.methodLink "CostsAge" 290 yX9_leastInYear ∈ lw_good := tg (tb 647 (by decide +kernel)) rfl
theorem call_X9_290 (C : CX p s m args c cc nL "CostsAge" D cy ad G A R d cells slots) {i : Nat} {Qf : Int32 → wS → Prop} (hM : Ctr l D cy ad G d2 yX9_leastInYear cX9_leastInYear 4 (some .int) [.ref (ad 0 i)] M (rI Qf)) (hd2 : d2 + 1 ≤ d) (hg : wG G 0 i) (hw : (st.map fun v => v.category).sum ≤ 8) (hd : decode cc pc = .ok (.invokevirtual 290, 3)) (k : ∀ x M', Qf x M' → V p l e R s m args below meth c nL D cy ad G A cells slots Q (pc + 3) lv (.int x :: st) M') : V p l e R s m args below meth c nL D cy ad G A cells slots Q pc lv (.ref (ad 0 i) :: st) M :=
  V_callV (n := 0) (As := []) C hM hd2 (by decide) qc_X9_leastInYear qm_X9_290 qi_X9_leastInYear ql_X9_leastInYear qn_CostsAge (by decide +kernel) hg wF_0 rfl rfl hw hd (fun r M' h => by obtain ⟨x, rfl, h⟩ := h; exact k x M' h)
theorem qm_X9_296 : Cond.methodLink "CostsAge" 296 yX9_takesBetterFee ∈ lw_good := tg (tb 655 (by decide +kernel)) rfl
theorem call_X9_296 (C : CX p s m args c cc nL "CostsAge" D cy ad G A R d cells slots) {i : Nat} {v1 : Value} {Qf : Int32 → wS → Prop} (hM : Ctr l D cy ad G d2 yX9_takesBetterFee cX9_takesBetterFee 6 (some .boolean) [.ref (ad 0 i), v1] M (rI Qf)) (hd2 : d2 + 1 ≤ d) (hg : wG G 0 i) (hw : (st.map fun v => v.category).sum ≤ 8) (hd : decode cc pc = .ok (.invokevirtual 296, 3)) (k : ∀ x M', Qf x M' → V p l e R s m args below meth c nL D cy ad G A cells slots Q (pc + 3) lv (.int x :: st) M') : V p l e R s m args below meth c nL D cy ad G A cells slots Q pc lv (v1 :: .ref (ad 0 i) :: st) M :=
  V_callV (n := 1) (As := [v1]) C hM hd2 (by decide) qc_X9_takesBetterFee qm_X9_296 qi_X9_takesBetterFee ql_X9_takesBetterFee qn_CostsAge (by decide +kernel) hg wF_0 rfl rfl hw hd (fun r M' h => by obtain ⟨x, rfl, h⟩ := h; exact k x M' h)
theorem qm_X9_299 : Cond.methodLinkNest "CostsAge" 299 yX1_setBars "CostsAge" ∈ lw_tbl := tb 659 (by decide +kernel)
theorem call_X9_299 (C : CX p s m args c cc nL "CostsAge" D cy ad G A R d cells slots) {i : Nat} {v1 v2 v3 : Value} {Qf : wS → Prop} (hM : Ctr l D cy ad G d2 yX1_setBars cX1_setBars 8 none [.ref (ad 22 i), v1, v2, v3] M (rV Qf)) (hd2 : d2 + 1 ≤ d) (hg : wG G 22 i) (hw : (st.map fun v => v.category).sum ≤ 8) (hd : decode cc pc = .ok (.invokevirtual 299, 3)) (k : ∀ M', Qf M' → V p l e R s m args below meth c nL D cy ad G A cells slots Q (pc + 3) lv st M') : V p l e R s m args below meth c nL D cy ad G A cells slots Q pc lv (v3 :: v2 :: v1 :: .ref (ad 22 i) :: st) M :=
  V_callVN (n := 3) (As := [v1, v2, v3]) C hM hd2 (by decide) qc_X1_setBars qm_X9_299 qi_X1_setBars ql_X1_setBars qn_CostsAge_Fees (by decide +kernel) hg wF_22 rfl rfl hw hd (fun r M' h => by obtain ⟨rfl, h⟩ := h; exact k M' h)
theorem qm_X9_302 : Cond.methodLink "CostsAge" 302 yX9_earnsBy ∈ lw_good := tg (tb 665 (by decide +kernel)) rfl
theorem call_X9_302 (C : CX p s m args c cc nL "CostsAge" D cy ad G A R d cells slots) {i : Nat} {v1 v2 : Value} {Qf : Int32 → wS → Prop} (hM : Ctr l D cy ad G d2 yX9_earnsBy cX9_earnsBy 7 (some .int) [.ref (ad 0 i), v1, v2] M (rI Qf)) (hd2 : d2 + 1 ≤ d) (hg : wG G 0 i) (hw : (st.map fun v => v.category).sum ≤ 8) (hd : decode cc pc = .ok (.invokevirtual 302, 3)) (k : ∀ x M', Qf x M' → V p l e R s m args below meth c nL D cy ad G A cells slots Q (pc + 3) lv (.int x :: st) M') : V p l e R s m args below meth c nL D cy ad G A cells slots Q pc lv (v2 :: v1 :: .ref (ad 0 i) :: st) M :=
  V_callV (n := 2) (As := [v1, v2]) C hM hd2 (by decide) qc_X9_earnsBy qm_X9_302 qi_X9_earnsBy ql_X9_earnsBy qn_CostsAge (by decide +kernel) hg wF_0 rfl rfl hw hd (fun r M' h => by obtain ⟨x, rfl, h⟩ := h; exact k x M' h)
theorem qm_X9_305 : Cond.methodLink "CostsAge" 305 yX9_fillCostsOf ∈ lw_good := tg (tb 621 (by decide +kernel)) rfl
theorem call_X9_305 (C : CX p s m args c cc nL "CostsAge" D cy ad G A R d cells slots) {i : Nat} {v1 v2 : Value} {Qf : wS → Prop} (hM : Ctr l D cy ad G d2 yX9_fillCostsOf cX9_fillCostsOf 4 none [.ref (ad 0 i), v1, v2] M (rV Qf)) (hd2 : d2 + 1 ≤ d) (hg : wG G 0 i) (hw : (st.map fun v => v.category).sum ≤ 8) (hd : decode cc pc = .ok (.invokevirtual 305, 3)) (k : ∀ M', Qf M' → V p l e R s m args below meth c nL D cy ad G A cells slots Q (pc + 3) lv st M') : V p l e R s m args below meth c nL D cy ad G A cells slots Q pc lv (v2 :: v1 :: .ref (ad 0 i) :: st) M :=
  V_callV (n := 2) (As := [v1, v2]) C hM hd2 (by decide) qc_X9_fillCostsOf qm_X9_305 qi_X9_fillCostsOf ql_X9_fillCostsOf qn_CostsAge (by decide +kernel) hg wF_0 rfl rfl hw hd (fun r M' h => by obtain ⟨rfl, h⟩ := h; exact k M' h)
theorem qm_X9_312 : Cond.methodLink "CostsAge" 312 yX9_isSheet ∈ lw_good := tg (tb 673 (by decide +kernel)) rfl
theorem call_X9_312 (C : CX p s m args c cc nL "CostsAge" D cy ad G A R d cells slots) {v1 : Value} {Qf : Int32 → wS → Prop} (hM : Ctr l D cy ad G d2 yX9_isSheet cX9_isSheet 1 (some .boolean) [v1] M (rI Qf)) (hd2 : d2 + 1 ≤ d) (hw : (st.map fun v => v.category).sum ≤ 8) (hd : decode cc pc = .ok (.invokestatic 312, 3)) (k : ∀ x M', Qf x M' → V p l e R s m args below meth c nL D cy ad G A cells slots Q (pc + 3) lv (.int x :: st) M') : V p l e R s m args below meth c nL D cy ad G A cells slots Q pc lv (v1 :: st) M :=
  V_callS (n := 1) (As := [v1]) C hM hd2 (by decide) qc_X9_isSheet qm_X9_312 qs_X9_isSheet qn_CostsAge (by decide +kernel) rfl hw hd (fun r M' h => by obtain ⟨x, rfl, h⟩ := h; exact k x M' h)
theorem qm_X9_315 : Cond.methodLinkNest "CostsAge" 315 yX5_isMissing "CostsAge" ∈ lw_tbl := tb 676 (by decide +kernel)
theorem call_X9_315 (C : CX p s m args c cc nL "CostsAge" D cy ad G A R d cells slots) {i : Nat} {Qf : Int32 → wS → Prop} (hM : Ctr l D cy ad G d2 yX5_isMissing cX5_isMissing 1 (some .boolean) [.ref (ad 9 i)] M (rI Qf)) (hd2 : d2 + 1 ≤ d) (hg : wG G 9 i) (hw : (st.map fun v => v.category).sum ≤ 8) (hd : decode cc pc = .ok (.invokevirtual 315, 3)) (k : ∀ x M', Qf x M' → V p l e R s m args below meth c nL D cy ad G A cells slots Q (pc + 3) lv (.int x :: st) M') : V p l e R s m args below meth c nL D cy ad G A cells slots Q pc lv (.ref (ad 9 i) :: st) M :=
  V_callVN (n := 0) (As := []) C hM hd2 (by decide) qc_X5_isMissing qm_X9_315 qi_X5_isMissing ql_X5_isMissing qn_CostsAge_Sheet (by decide +kernel) hg wF_9 rfl rfl hw hd (fun r M' h => by obtain ⟨x, rfl, h⟩ := h; exact k x M' h)
theorem qm_X9_323 : Cond.methodLink "CostsAge" 323 yX9_priceOfRow ∈ lw_good := tg (tb 684 (by decide +kernel)) rfl
theorem call_X9_323 (C : CX p s m args c cc nL "CostsAge" D cy ad G A R d cells slots) {i : Nat} {v1 v2 v3 : Value} {Qf : Int32 → wS → Prop} (hM : Ctr l D cy ad G d2 yX9_priceOfRow cX9_priceOfRow 4 (some .int) [.ref (ad 0 i), v1, v2, v3] M (rI Qf)) (hd2 : d2 + 1 ≤ d) (hg : wG G 0 i) (hw : (st.map fun v => v.category).sum ≤ 8) (hd : decode cc pc = .ok (.invokevirtual 323, 3)) (k : ∀ x M', Qf x M' → V p l e R s m args below meth c nL D cy ad G A cells slots Q (pc + 3) lv (.int x :: st) M') : V p l e R s m args below meth c nL D cy ad G A cells slots Q pc lv (v3 :: v2 :: v1 :: .ref (ad 0 i) :: st) M :=
  V_callV (n := 3) (As := [v1, v2, v3]) C hM hd2 (by decide) qc_X9_priceOfRow qm_X9_323 qi_X9_priceOfRow ql_X9_priceOfRow qn_CostsAge (by decide +kernel) hg wF_0 rfl rfl hw hd (fun r M' h => by obtain ⟨x, rfl, h⟩ := h; exact k x M' h)
theorem qm_X9_327 : Cond.methodLinkNest "CostsAge" 327 yX6_become "CostsAge" ∈ lw_tbl := tb 701 (by decide +kernel)
theorem call_X9_327 (C : CX p s m args c cc nL "CostsAge" D cy ad G A R d cells slots) {i : Nat} {v1 v2 v3 : Value} {Qf : wS → Prop} (hM : Ctr l D cy ad G d2 yX6_become cX6_become 5 none [.ref (ad 26 i), v1, v2, v3] M (rV Qf)) (hd2 : d2 + 1 ≤ d) (hg : wG G 26 i) (hw : (st.map fun v => v.category).sum ≤ 8) (hd : decode cc pc = .ok (.invokevirtual 327, 3)) (k : ∀ M', Qf M' → V p l e R s m args below meth c nL D cy ad G A cells slots Q (pc + 3) lv st M') : V p l e R s m args below meth c nL D cy ad G A cells slots Q pc lv (v3 :: v2 :: v1 :: .ref (ad 26 i) :: st) M :=
  V_callVN (n := 3) (As := [v1, v2, v3]) C hM hd2 (by decide) qc_X6_become qm_X9_327 qi_X6_become ql_X6_become qn_CostsAge_Standing (by decide +kernel) hg wF_26 rfl rfl hw hd (fun r M' h => by obtain ⟨rfl, h⟩ := h; exact k M' h)
theorem qm_X9_337 : Cond.methodLink "CostsAge" 337 yX9_isSort ∈ lw_good := tg (tb 720 (by decide +kernel)) rfl
theorem call_X9_337 (C : CX p s m args c cc nL "CostsAge" D cy ad G A R d cells slots) {v1 : Value} {Qf : Int32 → wS → Prop} (hM : Ctr l D cy ad G d2 yX9_isSort cX9_isSort 1 (some .boolean) [v1] M (rI Qf)) (hd2 : d2 + 1 ≤ d) (hw : (st.map fun v => v.category).sum ≤ 8) (hd : decode cc pc = .ok (.invokestatic 337, 3)) (k : ∀ x M', Qf x M' → V p l e R s m args below meth c nL D cy ad G A cells slots Q (pc + 3) lv (.int x :: st) M') : V p l e R s m args below meth c nL D cy ad G A cells slots Q pc lv (v1 :: st) M :=
  V_callS (n := 1) (As := [v1]) C hM hd2 (by decide) qc_X9_isSort qm_X9_337 qs_X9_isSort qn_CostsAge (by decide +kernel) rfl hw hd (fun r M' h => by obtain ⟨x, rfl, h⟩ := h; exact k x M' h)
theorem qm_X9_340 : Cond.methodLinkNest "CostsAge" 340 yX5_become "CostsAge" ∈ lw_tbl := tb 723 (by decide +kernel)
theorem call_X9_340 (C : CX p s m args c cc nL "CostsAge" D cy ad G A R d cells slots) {i : Nat} {v1 v2 : Value} {Qf : wS → Prop} (hM : Ctr l D cy ad G d2 yX5_become cX5_become 4 none [.ref (ad 9 i), v1, v2] M (rV Qf)) (hd2 : d2 + 1 ≤ d) (hg : wG G 9 i) (hw : (st.map fun v => v.category).sum ≤ 8) (hd : decode cc pc = .ok (.invokevirtual 340, 3)) (k : ∀ M', Qf M' → V p l e R s m args below meth c nL D cy ad G A cells slots Q (pc + 3) lv st M') : V p l e R s m args below meth c nL D cy ad G A cells slots Q pc lv (v2 :: v1 :: .ref (ad 9 i) :: st) M :=
  V_callVN (n := 2) (As := [v1, v2]) C hM hd2 (by decide) qc_X5_become qm_X9_340 qi_X5_become ql_X5_become qn_CostsAge_Sheet (by decide +kernel) hg wF_9 rfl rfl hw hd (fun r M' h => by obtain ⟨rfl, h⟩ := h; exact k M' h)
theorem qm_X9_342 : Cond.methodLinkNest "CostsAge" 342 yX5_reaches "CostsAge" ∈ lw_tbl := tb 731 (by decide +kernel)
theorem call_X9_342 (C : CX p s m args c cc nL "CostsAge" D cy ad G A R d cells slots) {i : Nat} {v1 : Value} {Qf : Int32 → wS → Prop} (hM : Ctr l D cy ad G d2 yX5_reaches cX5_reaches 2 (some .boolean) [.ref (ad 9 i), v1] M (rI Qf)) (hd2 : d2 + 1 ≤ d) (hg : wG G 9 i) (hw : (st.map fun v => v.category).sum ≤ 8) (hd : decode cc pc = .ok (.invokevirtual 342, 3)) (k : ∀ x M', Qf x M' → V p l e R s m args below meth c nL D cy ad G A cells slots Q (pc + 3) lv (.int x :: st) M') : V p l e R s m args below meth c nL D cy ad G A cells slots Q pc lv (v1 :: .ref (ad 9 i) :: st) M :=
  V_callVN (n := 1) (As := [v1]) C hM hd2 (by decide) qc_X5_reaches qm_X9_342 qi_X5_reaches ql_X5_reaches qn_CostsAge_Sheet (by decide +kernel) hg wF_9 rfl rfl hw hd (fun r M' h => by obtain ⟨x, rfl, h⟩ := h; exact k x M' h)
theorem qm_X9_345 : Cond.methodLinkNest "CostsAge" 345 yX5_write "CostsAge" ∈ lw_tbl := tb 735 (by decide +kernel)
theorem call_X9_345 (C : CX p s m args c cc nL "CostsAge" D cy ad G A R d cells slots) {i : Nat} {v1 v2 : Value} {Qf : wS → Prop} (hM : Ctr l D cy ad G d2 yX5_write cX5_write 3 none [.ref (ad 9 i), v1, v2] M (rV Qf)) (hd2 : d2 + 1 ≤ d) (hg : wG G 9 i) (hw : (st.map fun v => v.category).sum ≤ 8) (hd : decode cc pc = .ok (.invokevirtual 345, 3)) (k : ∀ M', Qf M' → V p l e R s m args below meth c nL D cy ad G A cells slots Q (pc + 3) lv st M') : V p l e R s m args below meth c nL D cy ad G A cells slots Q pc lv (v2 :: v1 :: .ref (ad 9 i) :: st) M :=
  V_callVN (n := 2) (As := [v1, v2]) C hM hd2 (by decide) qc_X5_write qm_X9_345 qi_X5_write ql_X5_write qn_CostsAge_Sheet (by decide +kernel) hg wF_9 rfl rfl hw hd (fun r M' h => by obtain ⟨rfl, h⟩ := h; exact k M' h)
theorem qm_X9_351 : Cond.methodLinkNest "CostsAge" 351 yX5_spans "CostsAge" ∈ lw_tbl := tb 743 (by decide +kernel)
theorem call_X9_351 (C : CX p s m args c cc nL "CostsAge" D cy ad G A R d cells slots) {i : Nat} {v1 v2 : Value} {Qf : Int32 → wS → Prop} (hM : Ctr l D cy ad G d2 yX5_spans cX5_spans 3 (some .boolean) [.ref (ad 9 i), v1, v2] M (rI Qf)) (hd2 : d2 + 1 ≤ d) (hg : wG G 9 i) (hw : (st.map fun v => v.category).sum ≤ 8) (hd : decode cc pc = .ok (.invokevirtual 351, 3)) (k : ∀ x M', Qf x M' → V p l e R s m args below meth c nL D cy ad G A cells slots Q (pc + 3) lv (.int x :: st) M') : V p l e R s m args below meth c nL D cy ad G A cells slots Q pc lv (v2 :: v1 :: .ref (ad 9 i) :: st) M :=
  V_callVN (n := 2) (As := [v1, v2]) C hM hd2 (by decide) qc_X5_spans qm_X9_351 qi_X5_spans ql_X5_spans qn_CostsAge_Sheet (by decide +kernel) hg wF_9 rfl rfl hw hd (fun r M' h => by obtain ⟨x, rfl, h⟩ := h; exact k x M' h)
theorem qm_X9_354 : Cond.methodLink "CostsAge" 354 arraycopyName ∈ lw_good := tg (tb 747 (by decide +kernel)) rfl
theorem qm_X9_360 : Cond.methodLink "CostsAge" 360 yX9_thing ∈ lw_good := tg (tb 752 (by decide +kernel)) rfl
theorem call_X9_360 (C : CX p s m args c cc nL "CostsAge" D cy ad G A R d cells slots) {i : Nat} {v1 v2 : Value} {Qf : Int32 → wS → Prop} (hM : Ctr l D cy ad G d2 yX9_thing cX9_thing 3 (some .int) [.ref (ad 0 i), v1, v2] M (rI Qf)) (hd2 : d2 + 1 ≤ d) (hg : wG G 0 i) (hw : (st.map fun v => v.category).sum ≤ 8) (hd : decode cc pc = .ok (.invokevirtual 360, 3)) (k : ∀ x M', Qf x M' → V p l e R s m args below meth c nL D cy ad G A cells slots Q (pc + 3) lv (.int x :: st) M') : V p l e R s m args below meth c nL D cy ad G A cells slots Q pc lv (v2 :: v1 :: .ref (ad 0 i) :: st) M :=
  V_callV (n := 2) (As := [v1, v2]) C hM hd2 (by decide) qc_X9_thing qm_X9_360 qi_X9_thing ql_X9_thing qn_CostsAge (by decide +kernel) hg wF_0 rfl rfl hw hd (fun r M' h => by obtain ⟨x, rfl, h⟩ := h; exact k x M' h)
theorem qm_X9_363 : Cond.methodLinkNest "CostsAge" 363 yX0_isOf "CostsAge" ∈ lw_tbl := tb 757 (by decide +kernel)
theorem call_X9_363 (C : CX p s m args c cc nL "CostsAge" D cy ad G A R d cells slots) {i : Nat} {v1 : Value} {Qf : Int32 → wS → Prop} (hM : Ctr l D cy ad G d2 yX0_isOf cX0_isOf 4 (some .boolean) [.ref (ad 5 i), v1] M (rI Qf)) (hd2 : d2 + 1 ≤ d) (hg : wG G 5 i) (hw : (st.map fun v => v.category).sum ≤ 8) (hd : decode cc pc = .ok (.invokevirtual 363, 3)) (k : ∀ x M', Qf x M' → V p l e R s m args below meth c nL D cy ad G A cells slots Q (pc + 3) lv (.int x :: st) M') : V p l e R s m args below meth c nL D cy ad G A cells slots Q pc lv (v1 :: .ref (ad 5 i) :: st) M :=
  V_callVN (n := 1) (As := [v1]) C hM hd2 (by decide) qc_X0_isOf qm_X9_363 qi_X0_isOf ql_X0_isOf qn_CostsAge_Buyer (by decide +kernel) hg wF_5 rfl rfl hw hd (fun r M' h => by obtain ⟨x, rfl, h⟩ := h; exact k x M' h)
theorem qm_X0_22 : Cond.methodLink "CostsAge$Buyer" 22 Lib.Math.min.name ∈ lw_good := tg (tb 512 (by decide +kernel)) rfl
theorem qm_X0_28 : Cond.methodLink "CostsAge$Buyer" 28 Lib.Math.max.name ∈ lw_good := tg (tb 481 (by decide +kernel)) rfl
theorem qm_X1_22 : Cond.methodLink "CostsAge$Fees" 22 Lib.Math.min.name ∈ lw_good := tg (tb 664 (by decide +kernel)) rfl
theorem qm_X2_27 : Cond.methodLink "CostsAge$Plan" 27 yJ6_bitCount_0f7a4 ∈ lw_good := tg (tb 594 (by decide +kernel)) rfl
theorem call_X2_27 (C : CX p s m args c cc nL "CostsAge$Plan" D cy ad G A R d cells slots) {v1 : Value} {Qf : Int32 → wS → Prop} (hM : Ctr l D cy ad G d2 yJ6_bitCount_0f7a4 cJ6_bitCount_0f7a4 1 (some .int) [v1] M (rI Qf)) (hd2 : d2 + 1 ≤ d) (hw : (st.map fun v => v.category).sum ≤ 8) (hd : decode cc pc = .ok (.invokestatic 27, 3)) (k : ∀ x M', Qf x M' → V p l e R s m args below meth c nL D cy ad G A cells slots Q (pc + 3) lv (.int x :: st) M') : V p l e R s m args below meth c nL D cy ad G A cells slots Q pc lv (v1 :: st) M :=
  V_callS (n := 1) (As := [v1]) C hM hd2 (by decide) qc_J6_bitCount_0f7a4 qm_X2_27 qs_J6_bitCount_0f7a4 qn_java_lang_Integer (by decide +kernel) rfl hw hd (fun r M' h => by obtain ⟨x, rfl, h⟩ := h; exact k x M' h)
theorem qm_X2_33 : Cond.methodLink "CostsAge$Plan" 33 yX2_tryHeap ∈ lw_good := tg (tb 600 (by decide +kernel)) rfl
theorem call_X2_33 (C : CX p s m args c cc nL "CostsAge$Plan" D cy ad G A R d cells slots) {i : Nat} {v1 v2 : Value} {Qf : wS → Prop} (hM : Ctr l D cy ad G d2 yX2_tryHeap cX2_tryHeap 6 none [.ref (ad 16 i), v1, v2] M (rV Qf)) (hd2 : d2 + 1 ≤ d) (hg : wG G 16 i) (hw : (st.map fun v => v.category).sum ≤ 8) (hd : decode cc pc = .ok (.invokevirtual 33, 3)) (k : ∀ M', Qf M' → V p l e R s m args below meth c nL D cy ad G A cells slots Q (pc + 3) lv st M') : V p l e R s m args below meth c nL D cy ad G A cells slots Q pc lv (v2 :: v1 :: .ref (ad 16 i) :: st) M :=
  V_callV (n := 2) (As := [v1, v2]) C hM hd2 (by decide) qc_X2_tryHeap qm_X2_33 qi_X2_tryHeap ql_X2_tryHeap qn_CostsAge_Plan (by decide +kernel) hg wF_16 rfl rfl hw hd (fun r M' h => by obtain ⟨rfl, h⟩ := h; exact k M' h)
theorem qm_X2_37 : Cond.methodLinkNest "CostsAge$Plan" 37 yX9_has "CostsAge" ∈ lw_tbl := tb 612 (by decide +kernel)
theorem call_X2_37 (C : CX p s m args c cc nL "CostsAge$Plan" D cy ad G A R d cells slots) {v1 v2 : Value} {Qf : Int32 → wS → Prop} (hM : Ctr l D cy ad G d2 yX9_has cX9_has 2 (some .boolean) [v1, v2] M (rI Qf)) (hd2 : d2 + 1 ≤ d) (hw : (st.map fun v => v.category).sum ≤ 8) (hd : decode cc pc = .ok (.invokestatic 37, 3)) (k : ∀ x M', Qf x M' → V p l e R s m args below meth c nL D cy ad G A cells slots Q (pc + 3) lv (.int x :: st) M') : V p l e R s m args below meth c nL D cy ad G A cells slots Q pc lv (v2 :: v1 :: st) M :=
  V_callSN (n := 2) (As := [v1, v2]) C hM hd2 (by decide) qc_X9_has qm_X2_37 qs_X9_has qn_CostsAge (by decide +kernel) rfl hw hd (fun r M' h => by obtain ⟨x, rfl, h⟩ := h; exact k x M' h)
theorem qm_X3_28 : Cond.methodLink "CostsAge$Reader" 28 yX3_advance ∈ lw_good := tg (tb 308 (by decide +kernel)) rfl
theorem call_X3_28 (C : CX p s m args c cc nL "CostsAge$Reader" D cy ad G A R d cells slots) {i : Nat} {Qf : wS → Prop} (hM : Ctr l D cy ad G d2 yX3_advance cX3_advance 1 none [.ref (ad 11 i)] M (rV Qf)) (hd2 : d2 + 1 ≤ d) (hg : wG G 11 i) (hw : (st.map fun v => v.category).sum ≤ 8) (hd : decode cc pc = .ok (.invokevirtual 28, 3)) (k : ∀ M', Qf M' → V p l e R s m args below meth c nL D cy ad G A cells slots Q (pc + 3) lv st M') : V p l e R s m args below meth c nL D cy ad G A cells slots Q pc lv (.ref (ad 11 i) :: st) M :=
  V_callV (n := 0) (As := []) C hM hd2 (by decide) qc_X3_advance qm_X3_28 qi_X3_advance ql_X3_advance qn_CostsAge_Reader (by decide +kernel) hg wF_11 rfl rfl hw hd (fun r M' h => by obtain ⟨rfl, h⟩ := h; exact k M' h)
theorem qm_X3_36 : Cond.methodLink "CostsAge$Reader" 36 yX3_readPart ∈ lw_good := tg (tb 347 (by decide +kernel)) rfl
theorem call_X3_36 (C : CX p s m args c cc nL "CostsAge$Reader" D cy ad G A R d cells slots) {i : Nat} {v1 v2 : Value} {Qf : Int32 → wS → Prop} (hM : Ctr l D cy ad G d2 yX3_readPart cX3_readPart 3 (some .int) [.ref (ad 11 i), v1, v2] M (rI Qf)) (hd2 : d2 + 1 ≤ d) (hg : wG G 11 i) (hw : (st.map fun v => v.category).sum ≤ 8) (hd : decode cc pc = .ok (.invokevirtual 36, 3)) (k : ∀ x M', Qf x M' → V p l e R s m args below meth c nL D cy ad G A cells slots Q (pc + 3) lv (.int x :: st) M') : V p l e R s m args below meth c nL D cy ad G A cells slots Q pc lv (v2 :: v1 :: .ref (ad 11 i) :: st) M :=
  V_callV (n := 2) (As := [v1, v2]) C hM hd2 (by decide) qc_X3_readPart qm_X3_36 qi_X3_readPart ql_X3_readPart qn_CostsAge_Reader (by decide +kernel) hg wF_11 rfl rfl hw hd (fun r M' h => by obtain ⟨x, rfl, h⟩ := h; exact k x M' h)
theorem qm_X3_52 : Cond.methodLink "CostsAge$Reader" 52 yX3_refuse ∈ lw_good := tg (tb 355 (by decide +kernel)) rfl
theorem call_X3_52 (C : CX p s m args c cc nL "CostsAge$Reader" D cy ad G A R d cells slots) {i : Nat} {Qf : wS → Prop} (hM : Ctr l D cy ad G d2 yX3_refuse cX3_refuse 1 none [.ref (ad 11 i)] M (rV Qf)) (hd2 : d2 + 1 ≤ d) (hg : wG G 11 i) (hw : (st.map fun v => v.category).sum ≤ 8) (hd : decode cc pc = .ok (.invokevirtual 52, 3)) (k : ∀ M', Qf M' → V p l e R s m args below meth c nL D cy ad G A cells slots Q (pc + 3) lv st M') : V p l e R s m args below meth c nL D cy ad G A cells slots Q pc lv (.ref (ad 11 i) :: st) M :=
  V_callV (n := 0) (As := []) C hM hd2 (by decide) qc_X3_refuse qm_X3_52 qi_X3_refuse ql_X3_refuse qn_CostsAge_Reader (by decide +kernel) hg wF_11 rfl rfl hw hd (fun r M' h => by obtain ⟨rfl, h⟩ := h; exact k M' h)
theorem qm_X3_55 : Cond.methodLink "CostsAge$Reader" 55 yX3_expect ∈ lw_good := tg (tb 351 (by decide +kernel)) rfl
theorem call_X3_55 (C : CX p s m args c cc nL "CostsAge$Reader" D cy ad G A R d cells slots) {i : Nat} {v1 : Value} {Qf : wS → Prop} (hM : Ctr l D cy ad G d2 yX3_expect cX3_expect 2 none [.ref (ad 11 i), v1] M (rV Qf)) (hd2 : d2 + 1 ≤ d) (hg : wG G 11 i) (hw : (st.map fun v => v.category).sum ≤ 8) (hd : decode cc pc = .ok (.invokevirtual 55, 3)) (k : ∀ M', Qf M' → V p l e R s m args below meth c nL D cy ad G A cells slots Q (pc + 3) lv st M') : V p l e R s m args below meth c nL D cy ad G A cells slots Q pc lv (v1 :: .ref (ad 11 i) :: st) M :=
  V_callV (n := 1) (As := [v1]) C hM hd2 (by decide) qc_X3_expect qm_X3_55 qi_X3_expect ql_X3_expect qn_CostsAge_Reader (by decide +kernel) hg wF_11 rfl rfl hw hd (fun r M' h => by obtain ⟨rfl, h⟩ := h; exact k M' h)
theorem qm_X3_59 : Cond.methodLink "CostsAge$Reader" 59 yX3_readE ∈ lw_good := tg (tb 359 (by decide +kernel)) rfl
theorem call_X3_59 (C : CX p s m args c cc nL "CostsAge$Reader" D cy ad G A R d cells slots) {i : Nat} {v1 v2 : Value} {Qf : wS → Prop} (hM : Ctr l D cy ad G d2 yX3_readE cX3_readE 4 none [.ref (ad 11 i), v1, v2] M (rV Qf)) (hd2 : d2 + 1 ≤ d) (hg : wG G 11 i) (hw : (st.map fun v => v.category).sum ≤ 8) (hd : decode cc pc = .ok (.invokevirtual 59, 3)) (k : ∀ M', Qf M' → V p l e R s m args below meth c nL D cy ad G A cells slots Q (pc + 3) lv st M') : V p l e R s m args below meth c nL D cy ad G A cells slots Q pc lv (v2 :: v1 :: .ref (ad 11 i) :: st) M :=
  V_callV (n := 2) (As := [v1, v2]) C hM hd2 (by decide) qc_X3_readE qm_X3_59 qi_X3_readE ql_X3_readE qn_CostsAge_Reader (by decide +kernel) hg wF_11 rfl rfl hw hd (fun r M' h => by obtain ⟨rfl, h⟩ := h; exact k M' h)
theorem qm_X3_63 : Cond.methodLink "CostsAge$Reader" 63 yX3_readAnd ∈ lw_good := tg (tb 363 (by decide +kernel)) rfl
theorem call_X3_63 (C : CX p s m args c cc nL "CostsAge$Reader" D cy ad G A R d cells slots) {i : Nat} {v1 v2 : Value} {Qf : wS → Prop} (hM : Ctr l D cy ad G d2 yX3_readAnd cX3_readAnd 4 none [.ref (ad 11 i), v1, v2] M (rV Qf)) (hd2 : d2 + 1 ≤ d) (hg : wG G 11 i) (hw : (st.map fun v => v.category).sum ≤ 8) (hd : decode cc pc = .ok (.invokevirtual 63, 3)) (k : ∀ M', Qf M' → V p l e R s m args below meth c nL D cy ad G A cells slots Q (pc + 3) lv st M') : V p l e R s m args below meth c nL D cy ad G A cells slots Q pc lv (v2 :: v1 :: .ref (ad 11 i) :: st) M :=
  V_callV (n := 2) (As := [v1, v2]) C hM hd2 (by decide) qc_X3_readAnd qm_X3_63 qi_X3_readAnd ql_X3_readAnd qn_CostsAge_Reader (by decide +kernel) hg wF_11 rfl rfl hw hd (fun r M' h => by obtain ⟨rfl, h⟩ := h; exact k M' h)
theorem qm_X3_66 : Cond.methodLink "CostsAge$Reader" 66 yX3_put ∈ lw_good := tg (tb 375 (by decide +kernel)) rfl
theorem call_X3_66 (C : CX p s m args c cc nL "CostsAge$Reader" D cy ad G A R d cells slots) {i : Nat} {v1 v2 : Value} {Qf : wS → Prop} (hM : Ctr l D cy ad G d2 yX3_put cX3_put 3 none [.ref (ad 11 i), v1, v2] M (rV Qf)) (hd2 : d2 + 1 ≤ d) (hg : wG G 11 i) (hw : (st.map fun v => v.category).sum ≤ 8) (hd : decode cc pc = .ok (.invokevirtual 66, 3)) (k : ∀ M', Qf M' → V p l e R s m args below meth c nL D cy ad G A cells slots Q (pc + 3) lv st M') : V p l e R s m args below meth c nL D cy ad G A cells slots Q pc lv (v2 :: v1 :: .ref (ad 11 i) :: st) M :=
  V_callV (n := 2) (As := [v1, v2]) C hM hd2 (by decide) qc_X3_put qm_X3_66 qi_X3_put ql_X3_put qn_CostsAge_Reader (by decide +kernel) hg wF_11 rfl rfl hw hd (fun r M' h => by obtain ⟨rfl, h⟩ := h; exact k M' h)
theorem qm_X3_69 : Cond.methodLink "CostsAge$Reader" 69 yX3_readNot ∈ lw_good := tg (tb 367 (by decide +kernel)) rfl
theorem call_X3_69 (C : CX p s m args c cc nL "CostsAge$Reader" D cy ad G A R d cells slots) {i : Nat} {v1 v2 : Value} {Qf : wS → Prop} (hM : Ctr l D cy ad G d2 yX3_readNot cX3_readNot 4 none [.ref (ad 11 i), v1, v2] M (rV Qf)) (hd2 : d2 + 1 ≤ d) (hg : wG G 11 i) (hw : (st.map fun v => v.category).sum ≤ 8) (hd : decode cc pc = .ok (.invokevirtual 69, 3)) (k : ∀ M', Qf M' → V p l e R s m args below meth c nL D cy ad G A cells slots Q (pc + 3) lv st M') : V p l e R s m args below meth c nL D cy ad G A cells slots Q pc lv (v2 :: v1 :: .ref (ad 11 i) :: st) M :=
  V_callV (n := 2) (As := [v1, v2]) C hM hd2 (by decide) qc_X3_readNot qm_X3_69 qi_X3_readNot ql_X3_readNot qn_CostsAge_Reader (by decide +kernel) hg wF_11 rfl rfl hw hd (fun r M' h => by obtain ⟨rfl, h⟩ := h; exact k M' h)
theorem qm_X3_72 : Cond.methodLink "CostsAge$Reader" 72 yX3_mayOpen ∈ lw_good := tg (tb 371 (by decide +kernel)) rfl
theorem call_X3_72 (C : CX p s m args c cc nL "CostsAge$Reader" D cy ad G A R d cells slots) {i : Nat} {v1 : Value} {Qf : Int32 → wS → Prop} (hM : Ctr l D cy ad G d2 yX3_mayOpen cX3_mayOpen 2 (some .boolean) [.ref (ad 11 i), v1] M (rI Qf)) (hd2 : d2 + 1 ≤ d) (hg : wG G 11 i) (hw : (st.map fun v => v.category).sum ≤ 8) (hd : decode cc pc = .ok (.invokevirtual 72, 3)) (k : ∀ x M', Qf x M' → V p l e R s m args below meth c nL D cy ad G A cells slots Q (pc + 3) lv (.int x :: st) M') : V p l e R s m args below meth c nL D cy ad G A cells slots Q pc lv (v1 :: .ref (ad 11 i) :: st) M :=
  V_callV (n := 1) (As := [v1]) C hM hd2 (by decide) qc_X3_mayOpen qm_X3_72 qi_X3_mayOpen ql_X3_mayOpen qn_CostsAge_Reader (by decide +kernel) hg wF_11 rfl rfl hw hd (fun r M' h => by obtain ⟨x, rfl, h⟩ := h; exact k x M' h)
theorem qm_X3_76 : Cond.methodLink "CostsAge$Reader" 76 yX3_readSum ∈ lw_good := tg (tb 379 (by decide +kernel)) rfl
theorem call_X3_76 (C : CX p s m args c cc nL "CostsAge$Reader" D cy ad G A R d cells slots) {i : Nat} {v1 v2 : Value} {Qf : wS → Prop} (hM : Ctr l D cy ad G d2 yX3_readSum cX3_readSum 5 none [.ref (ad 11 i), v1, v2] M (rV Qf)) (hd2 : d2 + 1 ≤ d) (hg : wG G 11 i) (hw : (st.map fun v => v.category).sum ≤ 8) (hd : decode cc pc = .ok (.invokevirtual 76, 3)) (k : ∀ M', Qf M' → V p l e R s m args below meth c nL D cy ad G A cells slots Q (pc + 3) lv st M') : V p l e R s m args below meth c nL D cy ad G A cells slots Q pc lv (v2 :: v1 :: .ref (ad 11 i) :: st) M :=
  V_callV (n := 2) (As := [v1, v2]) C hM hd2 (by decide) qc_X3_readSum qm_X3_76 qi_X3_readSum ql_X3_readSum qn_CostsAge_Reader (by decide +kernel) hg wF_11 rfl rfl hw hd (fun r M' h => by obtain ⟨rfl, h⟩ := h; exact k M' h)
theorem qm_X3_79 : Cond.methodLink "CostsAge$Reader" 79 yX3_readTerm ∈ lw_good := tg (tb 383 (by decide +kernel)) rfl
theorem call_X3_79 (C : CX p s m args c cc nL "CostsAge$Reader" D cy ad G A R d cells slots) {i : Nat} {v1 v2 : Value} {Qf : wS → Prop} (hM : Ctr l D cy ad G d2 yX3_readTerm cX3_readTerm 4 none [.ref (ad 11 i), v1, v2] M (rV Qf)) (hd2 : d2 + 1 ≤ d) (hg : wG G 11 i) (hw : (st.map fun v => v.category).sum ≤ 8) (hd : decode cc pc = .ok (.invokevirtual 79, 3)) (k : ∀ M', Qf M' → V p l e R s m args below meth c nL D cy ad G A cells slots Q (pc + 3) lv st M') : V p l e R s m args below meth c nL D cy ad G A cells slots Q pc lv (v2 :: v1 :: .ref (ad 11 i) :: st) M :=
  V_callV (n := 2) (As := [v1, v2]) C hM hd2 (by decide) qc_X3_readTerm qm_X3_79 qi_X3_readTerm ql_X3_readTerm qn_CostsAge_Reader (by decide +kernel) hg wF_11 rfl rfl hw hd (fun r M' h => by obtain ⟨rfl, h⟩ := h; exact k M' h)
theorem qm_X3_82 : Cond.methodLink "CostsAge$Reader" 82 yX3_readOne ∈ lw_good := tg (tb 387 (by decide +kernel)) rfl
theorem call_X3_82 (C : CX p s m args c cc nL "CostsAge$Reader" D cy ad G A R d cells slots) {i : Nat} {v1 v2 : Value} {Qf : wS → Prop} (hM : Ctr l D cy ad G d2 yX3_readOne cX3_readOne 3 none [.ref (ad 11 i), v1, v2] M (rV Qf)) (hd2 : d2 + 1 ≤ d) (hg : wG G 11 i) (hw : (st.map fun v => v.category).sum ≤ 8) (hd : decode cc pc = .ok (.invokevirtual 82, 3)) (k : ∀ M', Qf M' → V p l e R s m args below meth c nL D cy ad G A cells slots Q (pc + 3) lv st M') : V p l e R s m args below meth c nL D cy ad G A cells slots Q pc lv (v2 :: v1 :: .ref (ad 11 i) :: st) M :=
  V_callV (n := 2) (As := [v1, v2]) C hM hd2 (by decide) qc_X3_readOne qm_X3_82 qi_X3_readOne ql_X3_readOne qn_CostsAge_Reader (by decide +kernel) hg wF_11 rfl rfl hw hd (fun r M' h => by obtain ⟨rfl, h⟩ := h; exact k M' h)
theorem qm_X3_91 : Cond.methodLink "CostsAge$Reader" 91 yX3_isLetter ∈ lw_good := tg (tb 312 (by decide +kernel)) rfl
theorem call_X3_91 (C : CX p s m args c cc nL "CostsAge$Reader" D cy ad G A R d cells slots) {v1 : Value} {Qf : Int32 → wS → Prop} (hM : Ctr l D cy ad G d2 yX3_isLetter cX3_isLetter 1 (some .boolean) [v1] M (rI Qf)) (hd2 : d2 + 1 ≤ d) (hw : (st.map fun v => v.category).sum ≤ 8) (hd : decode cc pc = .ok (.invokestatic 91, 3)) (k : ∀ x M', Qf x M' → V p l e R s m args below meth c nL D cy ad G A cells slots Q (pc + 3) lv (.int x :: st) M') : V p l e R s m args below meth c nL D cy ad G A cells slots Q pc lv (v1 :: st) M :=
  V_callS (n := 1) (As := [v1]) C hM hd2 (by decide) qc_X3_isLetter qm_X3_91 qs_X3_isLetter qn_CostsAge_Reader (by decide +kernel) rfl hw hd (fun r M' h => by obtain ⟨x, rfl, h⟩ := h; exact k x M' h)
theorem qm_X3_94 : Cond.methodLink "CostsAge$Reader" 94 yX3_takeWord ∈ lw_good := tg (tb 315 (by decide +kernel)) rfl
theorem call_X3_94 (C : CX p s m args c cc nL "CostsAge$Reader" D cy ad G A R d cells slots) {i : Nat} {Qf : wS → Prop} (hM : Ctr l D cy ad G d2 yX3_takeWord cX3_takeWord 2 none [.ref (ad 11 i)] M (rV Qf)) (hd2 : d2 + 1 ≤ d) (hg : wG G 11 i) (hw : (st.map fun v => v.category).sum ≤ 8) (hd : decode cc pc = .ok (.invokevirtual 94, 3)) (k : ∀ M', Qf M' → V p l e R s m args below meth c nL D cy ad G A cells slots Q (pc + 3) lv st M') : V p l e R s m args below meth c nL D cy ad G A cells slots Q pc lv (.ref (ad 11 i) :: st) M :=
  V_callV (n := 0) (As := []) C hM hd2 (by decide) qc_X3_takeWord qm_X3_94 qi_X3_takeWord ql_X3_takeWord qn_CostsAge_Reader (by decide +kernel) hg wF_11 rfl rfl hw hd (fun r M' h => by obtain ⟨rfl, h⟩ := h; exact k M' h)
theorem qm_X3_97 : Cond.methodLink "CostsAge$Reader" 97 yX3_isDigit ∈ lw_good := tg (tb 337 (by decide +kernel)) rfl
theorem call_X3_97 (C : CX p s m args c cc nL "CostsAge$Reader" D cy ad G A R d cells slots) {v1 : Value} {Qf : Int32 → wS → Prop} (hM : Ctr l D cy ad G d2 yX3_isDigit cX3_isDigit 1 (some .boolean) [v1] M (rI Qf)) (hd2 : d2 + 1 ≤ d) (hw : (st.map fun v => v.category).sum ≤ 8) (hd : decode cc pc = .ok (.invokestatic 97, 3)) (k : ∀ x M', Qf x M' → V p l e R s m args below meth c nL D cy ad G A cells slots Q (pc + 3) lv (.int x :: st) M') : V p l e R s m args below meth c nL D cy ad G A cells slots Q pc lv (v1 :: st) M :=
  V_callS (n := 1) (As := [v1]) C hM hd2 (by decide) qc_X3_isDigit qm_X3_97 qs_X3_isDigit qn_CostsAge_Reader (by decide +kernel) rfl hw hd (fun r M' h => by obtain ⟨x, rfl, h⟩ := h; exact k x M' h)
theorem qm_X3_100 : Cond.methodLink "CostsAge$Reader" 100 yX3_takeNumber ∈ lw_good := tg (tb 340 (by decide +kernel)) rfl
theorem call_X3_100 (C : CX p s m args c cc nL "CostsAge$Reader" D cy ad G A R d cells slots) {i : Nat} {Qf : wS → Prop} (hM : Ctr l D cy ad G d2 yX3_takeNumber cX3_takeNumber 1 none [.ref (ad 11 i)] M (rV Qf)) (hd2 : d2 + 1 ≤ d) (hg : wG G 11 i) (hw : (st.map fun v => v.category).sum ≤ 8) (hd : decode cc pc = .ok (.invokevirtual 100, 3)) (k : ∀ M', Qf M' → V p l e R s m args below meth c nL D cy ad G A cells slots Q (pc + 3) lv st M') : V p l e R s m args below meth c nL D cy ad G A cells slots Q pc lv (.ref (ad 11 i) :: st) M :=
  V_callV (n := 0) (As := []) C hM hd2 (by decide) qc_X3_takeNumber qm_X3_100 qi_X3_takeNumber ql_X3_takeNumber qn_CostsAge_Reader (by decide +kernel) hg wF_11 rfl rfl hw hd (fun r M' h => by obtain ⟨rfl, h⟩ := h; exact k M' h)
theorem qm_X3_103 : Cond.methodLink "CostsAge$Reader" 103 yX3_isSign ∈ lw_good := tg (tb 344 (by decide +kernel)) rfl
theorem call_X3_103 (C : CX p s m args c cc nL "CostsAge$Reader" D cy ad G A R d cells slots) {v1 : Value} {Qf : Int32 → wS → Prop} (hM : Ctr l D cy ad G d2 yX3_isSign cX3_isSign 1 (some .boolean) [v1] M (rI Qf)) (hd2 : d2 + 1 ≤ d) (hw : (st.map fun v => v.category).sum ≤ 8) (hd : decode cc pc = .ok (.invokestatic 103, 3)) (k : ∀ x M', Qf x M' → V p l e R s m args below meth c nL D cy ad G A cells slots Q (pc + 3) lv (.int x :: st) M') : V p l e R s m args below meth c nL D cy ad G A cells slots Q pc lv (v1 :: st) M :=
  V_callS (n := 1) (As := [v1]) C hM hd2 (by decide) qc_X3_isSign qm_X3_103 qs_X3_isSign qn_CostsAge_Reader (by decide +kernel) rfl hw hd (fun r M' h => by obtain ⟨x, rfl, h⟩ := h; exact k x M' h)
theorem qm_X3_108 : Cond.methodLink "CostsAge$Reader" 108 yX3_stands ∈ lw_good := tg (tb 320 (by decide +kernel)) rfl
theorem call_X3_108 (C : CX p s m args c cc nL "CostsAge$Reader" D cy ad G A R d cells slots) {i : Nat} {v1 : Value} {Qf : Int32 → wS → Prop} (hM : Ctr l D cy ad G d2 yX3_stands cX3_stands 3 (some .boolean) [.ref (ad 11 i), v1] M (rI Qf)) (hd2 : d2 + 1 ≤ d) (hg : wG G 11 i) (hw : (st.map fun v => v.category).sum ≤ 8) (hd : decode cc pc = .ok (.invokevirtual 108, 3)) (k : ∀ x M', Qf x M' → V p l e R s m args below meth c nL D cy ad G A cells slots Q (pc + 3) lv (.int x :: st) M') : V p l e R s m args below meth c nL D cy ad G A cells slots Q pc lv (v1 :: .ref (ad 11 i) :: st) M :=
  V_callV (n := 1) (As := [v1]) C hM hd2 (by decide) qc_X3_stands qm_X3_108 qi_X3_stands ql_X3_stands qn_CostsAge_Reader (by decide +kernel) hg wF_11 rfl rfl hw hd (fun r M' h => by obtain ⟨x, rfl, h⟩ := h; exact k x M' h)
theorem qm_X3_133 : Cond.methodLink "CostsAge$Reader" 133 yJ0_length_8abf5 ∈ lw_good := tg (tb 324 (by decide +kernel)) rfl
theorem call_X3_133 (C : CX p s m args c cc nL "CostsAge$Reader" D cy ad G A R d cells slots) {i : Nat} {Qf : Int32 → wS → Prop} (hM : Ctr l D cy ad G d2 yJ0_length_8abf5 cJ0_length_8abf5 1 (some .int) [.ref (ad 61 i)] M (rI Qf)) (hd2 : d2 + 1 ≤ d) (hi : i < 13) (hw : (st.map fun v => v.category).sum ≤ 8) (hd : decode cc pc = .ok (.invokevirtual 133, 3)) (k : ∀ x M', Qf x M' → V p l e R s m args below meth c nL D cy ad G A cells slots Q (pc + 3) lv (.int x :: st) M') : V p l e R s m args below meth c nL D cy ad G A cells slots Q pc lv (.ref (ad 61 i) :: st) M :=
  V_callK (n := 0) (As := []) C hM hd2 (by decide) qc_J0_length_8abf5 qm_X3_133 qi_J0_length_8abf5 ql_J0_length_8abf5 qn_java_lang_String (by decide +kernel) rfl hi rfl hw hd (fun r M' h => by obtain ⟨x, rfl, h⟩ := h; exact k x M' h)
theorem qm_X3_138 : Cond.methodLink "CostsAge$Reader" 138 yJ0_charAt_5068e ∈ lw_good := tg (tb 325 (by decide +kernel)) rfl
theorem call_X3_138 (C : CX p s m args c cc nL "CostsAge$Reader" D cy ad G A R d cells slots) {i : Nat} {v1 : Value} {Qf : Int32 → wS → Prop} (hM : Ctr l D cy ad G d2 yJ0_charAt_5068e cJ0_charAt_5068e 2 (some .char) [.ref (ad 61 i), v1] M (rI Qf)) (hd2 : d2 + 1 ≤ d) (hi : i < 13) (hw : (st.map fun v => v.category).sum ≤ 8) (hd : decode cc pc = .ok (.invokevirtual 138, 3)) (k : ∀ x M', Qf x M' → V p l e R s m args below meth c nL D cy ad G A cells slots Q (pc + 3) lv (.int x :: st) M') : V p l e R s m args below meth c nL D cy ad G A cells slots Q pc lv (v1 :: .ref (ad 61 i) :: st) M :=
  V_callK (n := 1) (As := [v1]) C hM hd2 (by decide) qc_J0_charAt_5068e qm_X3_138 qi_J0_charAt_5068e ql_J0_charAt_5068e qn_java_lang_String (by decide +kernel) rfl hi rfl hw hd (fun r M' h => by obtain ⟨x, rfl, h⟩ := h; exact k x M' h)
theorem qm_X4_22 : Cond.methodLink "CostsAge$Scene" 22 yX4_joined ∈ lw_good := tg (tb 546 (by decide +kernel)) rfl
theorem call_X4_22 (C : CX p s m args c cc nL "CostsAge$Scene" D cy ad G A R d cells slots) {v1 v2 v3 : Value} {Qf : Int32 → wS → Prop} (hM : Ctr l D cy ad G d2 yX4_joined cX4_joined 3 (some .int) [v1, v2, v3] M (rI Qf)) (hd2 : d2 + 1 ≤ d) (hw : (st.map fun v => v.category).sum ≤ 8) (hd : decode cc pc = .ok (.invokestatic 22, 3)) (k : ∀ x M', Qf x M' → V p l e R s m args below meth c nL D cy ad G A cells slots Q (pc + 3) lv (.int x :: st) M') : V p l e R s m args below meth c nL D cy ad G A cells slots Q pc lv (v3 :: v2 :: v1 :: st) M :=
  V_callS (n := 3) (As := [v1, v2, v3]) C hM hd2 (by decide) qc_X4_joined qm_X4_22 qs_X4_joined qn_CostsAge_Scene (by decide +kernel) rfl hw hd (fun r M' h => by obtain ⟨x, rfl, h⟩ := h; exact k x M' h)
theorem qm_X6_21 : Cond.methodLink "CostsAge$Standing" 21 arraycopyName ∈ lw_good := tg (tb 705 (by decide +kernel)) rfl
theorem qm_L_13 : Cond.methodLink "CostsAgeLaw" 13 yX9_buyer ∈ lw_good := tg (tb 435 (by decide +kernel)) rfl
theorem call_L_13 (C : CX p s m args c cc nL "CostsAgeLaw" D cy ad G A R d cells slots) {i : Nat} {v1 v2 v3 : Value} {Qf : Int32 → wS → Prop} (hM : Ctr l D cy ad G d2 yX9_buyer cX9_buyer 5 (some .int) [.ref (ad 0 i), v1, v2, v3] M (rI Qf)) (hd2 : d2 + 1 ≤ d) (hg : wG G 0 i) (hw : (st.map fun v => v.category).sum ≤ 8) (hd : decode cc pc = .ok (.invokevirtual 13, 3)) (k : ∀ x M', Qf x M' → V p l e R s m args below meth c nL D cy ad G A cells slots Q (pc + 3) lv (.int x :: st) M') : V p l e R s m args below meth c nL D cy ad G A cells slots Q pc lv (v3 :: v2 :: v1 :: .ref (ad 0 i) :: st) M :=
  V_callV (n := 3) (As := [v1, v2, v3]) C hM hd2 (by decide) qc_X9_buyer qm_L_13 qi_X9_buyer ql_X9_buyer qn_CostsAge (by decide +kernel) hg wF_0 rfl rfl hw hd (fun r M' h => by obtain ⟨x, rfl, h⟩ := h; exact k x M' h)
theorem qm_L_17 : Cond.methodLink "CostsAgeLaw" 17 yX10_buyer ∈ lw_good := tg (tb 957 (by decide +kernel)) rfl
theorem call_L_17 (C : CX p s m args c cc nL "CostsAgeLaw" D cy ad G A R d cells slots) {i : Nat} {v1 v2 v3 : Value} {Qf : Int32 → wS → Prop} (hM : Ctr l D cy ad G d2 yX10_buyer cX10_buyer 4 (some .int) [.ref (ad 30 i), v1, v2, v3] M (rI Qf)) (hd2 : d2 + 1 ≤ d) (hg : wG G 30 i) (hw : (st.map fun v => v.category).sum ≤ 8) (hd : decode cc pc = .ok (.invokevirtual 17, 3)) (k : ∀ x M', Qf x M' → V p l e R s m args below meth c nL D cy ad G A cells slots Q (pc + 3) lv (.int x :: st) M') : V p l e R s m args below meth c nL D cy ad G A cells slots Q pc lv (v3 :: v2 :: v1 :: .ref (ad 30 i) :: st) M :=
  V_callV (n := 3) (As := [v1, v2, v3]) C hM hd2 (by decide) qc_X10_buyer qm_L_17 qi_X10_buyer ql_X10_buyer qn_CostsAgeModel (by decide +kernel) hg wF_30 rfl rfl hw hd (fun r M' h => by obtain ⟨x, rfl, h⟩ := h; exact k x M' h)
theorem qm_L_18 : Cond.methodLink "CostsAgeLaw" 18 yX9_thing ∈ lw_good := tg (tb 442 (by decide +kernel)) rfl
theorem call_L_18 (C : CX p s m args c cc nL "CostsAgeLaw" D cy ad G A R d cells slots) {i : Nat} {v1 v2 : Value} {Qf : Int32 → wS → Prop} (hM : Ctr l D cy ad G d2 yX9_thing cX9_thing 3 (some .int) [.ref (ad 0 i), v1, v2] M (rI Qf)) (hd2 : d2 + 1 ≤ d) (hg : wG G 0 i) (hw : (st.map fun v => v.category).sum ≤ 8) (hd : decode cc pc = .ok (.invokevirtual 18, 3)) (k : ∀ x M', Qf x M' → V p l e R s m args below meth c nL D cy ad G A cells slots Q (pc + 3) lv (.int x :: st) M') : V p l e R s m args below meth c nL D cy ad G A cells slots Q pc lv (v2 :: v1 :: .ref (ad 0 i) :: st) M :=
  V_callV (n := 2) (As := [v1, v2]) C hM hd2 (by decide) qc_X9_thing qm_L_18 qi_X9_thing ql_X9_thing qn_CostsAge (by decide +kernel) hg wF_0 rfl rfl hw hd (fun r M' h => by obtain ⟨x, rfl, h⟩ := h; exact k x M' h)
theorem qm_L_22 : Cond.methodLink "CostsAgeLaw" 22 yX10_thing ∈ lw_good := tg (tb 967 (by decide +kernel)) rfl
theorem call_L_22 (C : CX p s m args c cc nL "CostsAgeLaw" D cy ad G A R d cells slots) {i : Nat} {v1 v2 : Value} {Qf : Int32 → wS → Prop} (hM : Ctr l D cy ad G d2 yX10_thing cX10_thing 3 (some .int) [.ref (ad 30 i), v1, v2] M (rI Qf)) (hd2 : d2 + 1 ≤ d) (hg : wG G 30 i) (hw : (st.map fun v => v.category).sum ≤ 8) (hd : decode cc pc = .ok (.invokevirtual 22, 3)) (k : ∀ x M', Qf x M' → V p l e R s m args below meth c nL D cy ad G A cells slots Q (pc + 3) lv (.int x :: st) M') : V p l e R s m args below meth c nL D cy ad G A cells slots Q pc lv (v2 :: v1 :: .ref (ad 30 i) :: st) M :=
  V_callV (n := 2) (As := [v1, v2]) C hM hd2 (by decide) qc_X10_thing qm_L_22 qi_X10_thing ql_X10_thing qn_CostsAgeModel (by decide +kernel) hg wF_30 rfl rfl hw hd (fun r M' h => by obtain ⟨x, rfl, h⟩ := h; exact k x M' h)
theorem qm_L_23 : Cond.methodLink "CostsAgeLaw" 23 yX9_set ∈ lw_good := tg (tb 446 (by decide +kernel)) rfl
theorem call_L_23 (C : CX p s m args c cc nL "CostsAgeLaw" D cy ad G A R d cells slots) {i : Nat} {v1 v2 v3 : Value} {Qf : Int32 → wS → Prop} (hM : Ctr l D cy ad G d2 yX9_set cX9_set 4 (some .int) [.ref (ad 0 i), v1, v2, v3] M (rI Qf)) (hd2 : d2 + 1 ≤ d) (hg : wG G 0 i) (hw : (st.map fun v => v.category).sum ≤ 8) (hd : decode cc pc = .ok (.invokevirtual 23, 3)) (k : ∀ x M', Qf x M' → V p l e R s m args below meth c nL D cy ad G A cells slots Q (pc + 3) lv (.int x :: st) M') : V p l e R s m args below meth c nL D cy ad G A cells slots Q pc lv (v3 :: v2 :: v1 :: .ref (ad 0 i) :: st) M :=
  V_callV (n := 3) (As := [v1, v2, v3]) C hM hd2 (by decide) qc_X9_set qm_L_23 qi_X9_set ql_X9_set qn_CostsAge (by decide +kernel) hg wF_0 rfl rfl hw hd (fun r M' h => by obtain ⟨x, rfl, h⟩ := h; exact k x M' h)
theorem qm_L_26 : Cond.methodLink "CostsAgeLaw" 26 yX10_set ∈ lw_good := tg (tb 972 (by decide +kernel)) rfl
theorem call_L_26 (C : CX p s m args c cc nL "CostsAgeLaw" D cy ad G A R d cells slots) {i : Nat} {v1 v2 v3 : Value} {Qf : Int32 → wS → Prop} (hM : Ctr l D cy ad G d2 yX10_set cX10_set 5 (some .int) [.ref (ad 30 i), v1, v2, v3] M (rI Qf)) (hd2 : d2 + 1 ≤ d) (hg : wG G 30 i) (hw : (st.map fun v => v.category).sum ≤ 8) (hd : decode cc pc = .ok (.invokevirtual 26, 3)) (k : ∀ x M', Qf x M' → V p l e R s m args below meth c nL D cy ad G A cells slots Q (pc + 3) lv (.int x :: st) M') : V p l e R s m args below meth c nL D cy ad G A cells slots Q pc lv (v3 :: v2 :: v1 :: .ref (ad 30 i) :: st) M :=
  V_callV (n := 3) (As := [v1, v2, v3]) C hM hd2 (by decide) qc_X10_set qm_L_26 qi_X10_set ql_X10_set qn_CostsAgeModel (by decide +kernel) hg wF_30 rfl rfl hw hd (fun r M' h => by obtain ⟨x, rfl, h⟩ := h; exact k x M' h)
theorem qm_L_27 : Cond.methodLink "CostsAgeLaw" 27 yX9_told ∈ lw_good := tg (tb 469 (by decide +kernel)) rfl
theorem call_L_27 (C : CX p s m args c cc nL "CostsAgeLaw" D cy ad G A R d cells slots) {i : Nat} {v1 v2 : Value} {Qf : Int32 → wS → Prop} (hM : Ctr l D cy ad G d2 yX9_told cX9_told 3 (some .int) [.ref (ad 0 i), v1, v2] M (rI Qf)) (hd2 : d2 + 1 ≤ d) (hg : wG G 0 i) (hw : (st.map fun v => v.category).sum ≤ 8) (hd : decode cc pc = .ok (.invokevirtual 27, 3)) (k : ∀ x M', Qf x M' → V p l e R s m args below meth c nL D cy ad G A cells slots Q (pc + 3) lv (.int x :: st) M') : V p l e R s m args below meth c nL D cy ad G A cells slots Q pc lv (v2 :: v1 :: .ref (ad 0 i) :: st) M :=
  V_callV (n := 2) (As := [v1, v2]) C hM hd2 (by decide) qc_X9_told qm_L_27 qi_X9_told ql_X9_told qn_CostsAge (by decide +kernel) hg wF_0 rfl rfl hw hd (fun r M' h => by obtain ⟨x, rfl, h⟩ := h; exact k x M' h)
theorem qm_L_30 : Cond.methodLink "CostsAgeLaw" 30 yX10_told ∈ lw_good := tg (tb 988 (by decide +kernel)) rfl
theorem call_L_30 (C : CX p s m args c cc nL "CostsAgeLaw" D cy ad G A R d cells slots) {i : Nat} {v1 v2 : Value} {Qf : Int32 → wS → Prop} (hM : Ctr l D cy ad G d2 yX10_told cX10_told 3 (some .int) [.ref (ad 30 i), v1, v2] M (rI Qf)) (hd2 : d2 + 1 ≤ d) (hg : wG G 30 i) (hw : (st.map fun v => v.category).sum ≤ 8) (hd : decode cc pc = .ok (.invokevirtual 30, 3)) (k : ∀ x M', Qf x M' → V p l e R s m args below meth c nL D cy ad G A cells slots Q (pc + 3) lv (.int x :: st) M') : V p l e R s m args below meth c nL D cy ad G A cells slots Q pc lv (v2 :: v1 :: .ref (ad 30 i) :: st) M :=
  V_callV (n := 2) (As := [v1, v2]) C hM hd2 (by decide) qc_X10_told qm_L_30 qi_X10_told ql_X10_told qn_CostsAgeModel (by decide +kernel) hg wF_30 rfl rfl hw hd (fun r M' h => by obtain ⟨x, rfl, h⟩ := h; exact k x M' h)
theorem qm_L_31 : Cond.methodLink "CostsAgeLaw" 31 yX9_feed ∈ lw_good := tg (tb 492 (by decide +kernel)) rfl
theorem call_L_31 (C : CX p s m args c cc nL "CostsAgeLaw" D cy ad G A R d cells slots) {i : Nat} {v1 : Value} {Qf : Int32 → wS → Prop} (hM : Ctr l D cy ad G d2 yX9_feed cX9_feed 2 (some .int) [.ref (ad 0 i), v1] M (rI Qf)) (hd2 : d2 + 1 ≤ d) (hg : wG G 0 i) (hw : (st.map fun v => v.category).sum ≤ 8) (hd : decode cc pc = .ok (.invokevirtual 31, 3)) (k : ∀ x M', Qf x M' → V p l e R s m args below meth c nL D cy ad G A cells slots Q (pc + 3) lv (.int x :: st) M') : V p l e R s m args below meth c nL D cy ad G A cells slots Q pc lv (v1 :: .ref (ad 0 i) :: st) M :=
  V_callV (n := 1) (As := [v1]) C hM hd2 (by decide) qc_X9_feed qm_L_31 qi_X9_feed ql_X9_feed qn_CostsAge (by decide +kernel) hg wF_0 rfl rfl hw hd (fun r M' h => by obtain ⟨x, rfl, h⟩ := h; exact k x M' h)
theorem qm_L_35 : Cond.methodLink "CostsAgeLaw" 35 yX10_feed ∈ lw_good := tg (tb 1001 (by decide +kernel)) rfl
theorem call_L_35 (C : CX p s m args c cc nL "CostsAgeLaw" D cy ad G A R d cells slots) {i : Nat} {v1 : Value} {Qf : Int32 → wS → Prop} (hM : Ctr l D cy ad G d2 yX10_feed cX10_feed 2 (some .int) [.ref (ad 30 i), v1] M (rI Qf)) (hd2 : d2 + 1 ≤ d) (hg : wG G 30 i) (hw : (st.map fun v => v.category).sum ≤ 8) (hd : decode cc pc = .ok (.invokevirtual 35, 3)) (k : ∀ x M', Qf x M' → V p l e R s m args below meth c nL D cy ad G A cells slots Q (pc + 3) lv (.int x :: st) M') : V p l e R s m args below meth c nL D cy ad G A cells slots Q pc lv (v1 :: .ref (ad 30 i) :: st) M :=
  V_callV (n := 1) (As := [v1]) C hM hd2 (by decide) qc_X10_feed qm_L_35 qi_X10_feed ql_X10_feed qn_CostsAgeModel (by decide +kernel) hg wF_30 rfl rfl hw hd (fun r M' h => by obtain ⟨x, rfl, h⟩ := h; exact k x M' h)
theorem qm_L_36 : Cond.methodLink "CostsAgeLaw" 36 yX9_text ∈ lw_good := tg (tb 496 (by decide +kernel)) rfl
theorem call_L_36 (C : CX p s m args c cc nL "CostsAgeLaw" D cy ad G A R d cells slots) {i : Nat} {Qf : Int32 → wS → Prop} (hM : Ctr l D cy ad G d2 yX9_text cX9_text 2 (some .int) [.ref (ad 0 i)] M (rI Qf)) (hd2 : d2 + 1 ≤ d) (hg : wG G 0 i) (hw : (st.map fun v => v.category).sum ≤ 8) (hd : decode cc pc = .ok (.invokevirtual 36, 3)) (k : ∀ x M', Qf x M' → V p l e R s m args below meth c nL D cy ad G A cells slots Q (pc + 3) lv (.int x :: st) M') : V p l e R s m args below meth c nL D cy ad G A cells slots Q pc lv (.ref (ad 0 i) :: st) M :=
  V_callV (n := 0) (As := []) C hM hd2 (by decide) qc_X9_text qm_L_36 qi_X9_text ql_X9_text qn_CostsAge (by decide +kernel) hg wF_0 rfl rfl hw hd (fun r M' h => by obtain ⟨x, rfl, h⟩ := h; exact k x M' h)
theorem qm_L_40 : Cond.methodLink "CostsAgeLaw" 40 yX10_text ∈ lw_good := tg (tb 1006 (by decide +kernel)) rfl
theorem call_L_40 (C : CX p s m args c cc nL "CostsAgeLaw" D cy ad G A R d cells slots) {i : Nat} {Qf : Int32 → wS → Prop} (hM : Ctr l D cy ad G d2 yX10_text cX10_text 2 (some .int) [.ref (ad 30 i)] M (rI Qf)) (hd2 : d2 + 1 ≤ d) (hg : wG G 30 i) (hw : (st.map fun v => v.category).sum ≤ 8) (hd : decode cc pc = .ok (.invokevirtual 40, 3)) (k : ∀ x M', Qf x M' → V p l e R s m args below meth c nL D cy ad G A cells slots Q (pc + 3) lv (.int x :: st) M') : V p l e R s m args below meth c nL D cy ad G A cells slots Q pc lv (.ref (ad 30 i) :: st) M :=
  V_callV (n := 0) (As := []) C hM hd2 (by decide) qc_X10_text qm_L_40 qi_X10_text ql_X10_text qn_CostsAgeModel (by decide +kernel) hg wF_30 rfl rfl hw hd (fun r M' h => by obtain ⟨x, rfl, h⟩ := h; exact k x M' h)
theorem qm_L_41 : Cond.methodLink "CostsAgeLaw" 41 yX9_force ∈ lw_good := tg (tb 500 (by decide +kernel)) rfl
theorem call_L_41 (C : CX p s m args c cc nL "CostsAgeLaw" D cy ad G A R d cells slots) {i : Nat} {v1 : Value} {Qf : Int32 → wS → Prop} (hM : Ctr l D cy ad G d2 yX9_force cX9_force 3 (some .int) [.ref (ad 0 i), v1] M (rI Qf)) (hd2 : d2 + 1 ≤ d) (hg : wG G 0 i) (hw : (st.map fun v => v.category).sum ≤ 8) (hd : decode cc pc = .ok (.invokevirtual 41, 3)) (k : ∀ x M', Qf x M' → V p l e R s m args below meth c nL D cy ad G A cells slots Q (pc + 3) lv (.int x :: st) M') : V p l e R s m args below meth c nL D cy ad G A cells slots Q pc lv (v1 :: .ref (ad 0 i) :: st) M :=
  V_callV (n := 1) (As := [v1]) C hM hd2 (by decide) qc_X9_force qm_L_41 qi_X9_force ql_X9_force qn_CostsAge (by decide +kernel) hg wF_0 rfl rfl hw hd (fun r M' h => by obtain ⟨x, rfl, h⟩ := h; exact k x M' h)
theorem qm_L_44 : Cond.methodLink "CostsAgeLaw" 44 yX10_force ∈ lw_good := tg (tb 1080 (by decide +kernel)) rfl
theorem call_L_44 (C : CX p s m args c cc nL "CostsAgeLaw" D cy ad G A R d cells slots) {i : Nat} {v1 : Value} {Qf : Int32 → wS → Prop} (hM : Ctr l D cy ad G d2 yX10_force cX10_force 3 (some .int) [.ref (ad 30 i), v1] M (rI Qf)) (hd2 : d2 + 1 ≤ d) (hg : wG G 30 i) (hw : (st.map fun v => v.category).sum ≤ 8) (hd : decode cc pc = .ok (.invokevirtual 44, 3)) (k : ∀ x M', Qf x M' → V p l e R s m args below meth c nL D cy ad G A cells slots Q (pc + 3) lv (.int x :: st) M') : V p l e R s m args below meth c nL D cy ad G A cells slots Q pc lv (v1 :: .ref (ad 30 i) :: st) M :=
  V_callV (n := 1) (As := [v1]) C hM hd2 (by decide) qc_X10_force qm_L_44 qi_X10_force ql_X10_force qn_CostsAgeModel (by decide +kernel) hg wF_30 rfl rfl hw hd (fun r M' h => by obtain ⟨x, rfl, h⟩ := h; exact k x M' h)
theorem qm_L_45 : Cond.methodLink "CostsAgeLaw" 45 yX9_years ∈ lw_good := tg (tb 504 (by decide +kernel)) rfl
theorem call_L_45 (C : CX p s m args c cc nL "CostsAgeLaw" D cy ad G A R d cells slots) {i : Nat} {v1 v2 : Value} {Qf : Int32 → wS → Prop} (hM : Ctr l D cy ad G d2 yX9_years cX9_years 3 (some .int) [.ref (ad 0 i), v1, v2] M (rI Qf)) (hd2 : d2 + 1 ≤ d) (hg : wG G 0 i) (hw : (st.map fun v => v.category).sum ≤ 8) (hd : decode cc pc = .ok (.invokevirtual 45, 3)) (k : ∀ x M', Qf x M' → V p l e R s m args below meth c nL D cy ad G A cells slots Q (pc + 3) lv (.int x :: st) M') : V p l e R s m args below meth c nL D cy ad G A cells slots Q pc lv (v2 :: v1 :: .ref (ad 0 i) :: st) M :=
  V_callV (n := 2) (As := [v1, v2]) C hM hd2 (by decide) qc_X9_years qm_L_45 qi_X9_years ql_X9_years qn_CostsAge (by decide +kernel) hg wF_0 rfl rfl hw hd (fun r M' h => by obtain ⟨x, rfl, h⟩ := h; exact k x M' h)
theorem qm_L_48 : Cond.methodLink "CostsAgeLaw" 48 yX10_years ∈ lw_good := tg (tb 1084 (by decide +kernel)) rfl
theorem call_L_48 (C : CX p s m args c cc nL "CostsAgeLaw" D cy ad G A R d cells slots) {i : Nat} {v1 v2 : Value} {Qf : Int32 → wS → Prop} (hM : Ctr l D cy ad G d2 yX10_years cX10_years 3 (some .int) [.ref (ad 30 i), v1, v2] M (rI Qf)) (hd2 : d2 + 1 ≤ d) (hg : wG G 30 i) (hw : (st.map fun v => v.category).sum ≤ 8) (hd : decode cc pc = .ok (.invokevirtual 48, 3)) (k : ∀ x M', Qf x M' → V p l e R s m args below meth c nL D cy ad G A cells slots Q (pc + 3) lv (.int x :: st) M') : V p l e R s m args below meth c nL D cy ad G A cells slots Q pc lv (v2 :: v1 :: .ref (ad 30 i) :: st) M :=
  V_callV (n := 2) (As := [v1, v2]) C hM hd2 (by decide) qc_X10_years qm_L_48 qi_X10_years ql_X10_years qn_CostsAgeModel (by decide +kernel) hg wF_30 rfl rfl hw hd (fun r M' h => by obtain ⟨x, rfl, h⟩ := h; exact k x M' h)
theorem qm_L_49 : Cond.methodLink "CostsAgeLaw" 49 yX9_cost ∈ lw_good := tg (tb 515 (by decide +kernel)) rfl
theorem call_L_49 (C : CX p s m args c cc nL "CostsAgeLaw" D cy ad G A R d cells slots) {i : Nat} {v1 v2 v3 : Value} {Qf : Int32 → wS → Prop} (hM : Ctr l D cy ad G d2 yX9_cost cX9_cost 4 (some .int) [.ref (ad 0 i), v1, v2, v3] M (rI Qf)) (hd2 : d2 + 1 ≤ d) (hg : wG G 0 i) (hw : (st.map fun v => v.category).sum ≤ 8) (hd : decode cc pc = .ok (.invokevirtual 49, 3)) (k : ∀ x M', Qf x M' → V p l e R s m args below meth c nL D cy ad G A cells slots Q (pc + 3) lv (.int x :: st) M') : V p l e R s m args below meth c nL D cy ad G A cells slots Q pc lv (v3 :: v2 :: v1 :: .ref (ad 0 i) :: st) M :=
  V_callV (n := 3) (As := [v1, v2, v3]) C hM hd2 (by decide) qc_X9_cost qm_L_49 qi_X9_cost ql_X9_cost qn_CostsAge (by decide +kernel) hg wF_0 rfl rfl hw hd (fun r M' h => by obtain ⟨x, rfl, h⟩ := h; exact k x M' h)
theorem qm_L_52 : Cond.methodLink "CostsAgeLaw" 52 yX10_cost ∈ lw_good := tg (tb 1093 (by decide +kernel)) rfl
theorem call_L_52 (C : CX p s m args c cc nL "CostsAgeLaw" D cy ad G A R d cells slots) {i : Nat} {v1 v2 v3 : Value} {Qf : Int32 → wS → Prop} (hM : Ctr l D cy ad G d2 yX10_cost cX10_cost 4 (some .int) [.ref (ad 30 i), v1, v2, v3] M (rI Qf)) (hd2 : d2 + 1 ≤ d) (hg : wG G 30 i) (hw : (st.map fun v => v.category).sum ≤ 8) (hd : decode cc pc = .ok (.invokevirtual 52, 3)) (k : ∀ x M', Qf x M' → V p l e R s m args below meth c nL D cy ad G A cells slots Q (pc + 3) lv (.int x :: st) M') : V p l e R s m args below meth c nL D cy ad G A cells slots Q pc lv (v3 :: v2 :: v1 :: .ref (ad 30 i) :: st) M :=
  V_callV (n := 3) (As := [v1, v2, v3]) C hM hd2 (by decide) qc_X10_cost qm_L_52 qi_X10_cost ql_X10_cost qn_CostsAgeModel (by decide +kernel) hg wF_30 rfl rfl hw hd (fun r M' h => by obtain ⟨x, rfl, h⟩ := h; exact k x M' h)
theorem qm_L_53 : Cond.methodLink "CostsAgeLaw" 53 yX9_best ∈ lw_good := tg (tb 554 (by decide +kernel)) rfl
theorem call_L_53 (C : CX p s m args c cc nL "CostsAgeLaw" D cy ad G A R d cells slots) {i : Nat} {v1 v2 v3 : Value} {Qf : Int32 → wS → Prop} (hM : Ctr l D cy ad G d2 yX9_best cX9_best 5 (some .int) [.ref (ad 0 i), v1, v2, v3] M (rI Qf)) (hd2 : d2 + 1 ≤ d) (hg : wG G 0 i) (hw : (st.map fun v => v.category).sum ≤ 8) (hd : decode cc pc = .ok (.invokevirtual 53, 3)) (k : ∀ x M', Qf x M' → V p l e R s m args below meth c nL D cy ad G A cells slots Q (pc + 3) lv (.int x :: st) M') : V p l e R s m args below meth c nL D cy ad G A cells slots Q pc lv (v3 :: v2 :: v1 :: .ref (ad 0 i) :: st) M :=
  V_callV (n := 3) (As := [v1, v2, v3]) C hM hd2 (by decide) qc_X9_best qm_L_53 qi_X9_best ql_X9_best qn_CostsAge (by decide +kernel) hg wF_0 rfl rfl hw hd (fun r M' h => by obtain ⟨x, rfl, h⟩ := h; exact k x M' h)
theorem qm_L_56 : Cond.methodLink "CostsAgeLaw" 56 yX10_best ∈ lw_good := tg (tb 1123 (by decide +kernel)) rfl
theorem call_L_56 (C : CX p s m args c cc nL "CostsAgeLaw" D cy ad G A R d cells slots) {i : Nat} {v1 v2 v3 : Value} {Qf : Int32 → wS → Prop} (hM : Ctr l D cy ad G d2 yX10_best cX10_best 5 (some .int) [.ref (ad 30 i), v1, v2, v3] M (rI Qf)) (hd2 : d2 + 1 ≤ d) (hg : wG G 30 i) (hw : (st.map fun v => v.category).sum ≤ 8) (hd : decode cc pc = .ok (.invokevirtual 56, 3)) (k : ∀ x M', Qf x M' → V p l e R s m args below meth c nL D cy ad G A cells slots Q (pc + 3) lv (.int x :: st) M') : V p l e R s m args below meth c nL D cy ad G A cells slots Q pc lv (v3 :: v2 :: v1 :: .ref (ad 30 i) :: st) M :=
  V_callV (n := 3) (As := [v1, v2, v3]) C hM hd2 (by decide) qc_X10_best qm_L_56 qi_X10_best ql_X10_best qn_CostsAgeModel (by decide +kernel) hg wF_30 rfl rfl hw hd (fun r M' h => by obtain ⟨x, rfl, h⟩ := h; exact k x M' h)
theorem qm_L_57 : Cond.methodLink "CostsAgeLaw" 57 yX9_when ∈ lw_good := tg (tb 566 (by decide +kernel)) rfl
theorem call_L_57 (C : CX p s m args c cc nL "CostsAgeLaw" D cy ad G A R d cells slots) {i : Nat} {v1 v2 : Value} {Qf : Int32 → wS → Prop} (hM : Ctr l D cy ad G d2 yX9_when cX9_when 7 (some .int) [.ref (ad 0 i), v1, v2] M (rI Qf)) (hd2 : d2 + 1 ≤ d) (hg : wG G 0 i) (hw : (st.map fun v => v.category).sum ≤ 8) (hd : decode cc pc = .ok (.invokevirtual 57, 3)) (k : ∀ x M', Qf x M' → V p l e R s m args below meth c nL D cy ad G A cells slots Q (pc + 3) lv (.int x :: st) M') : V p l e R s m args below meth c nL D cy ad G A cells slots Q pc lv (v2 :: v1 :: .ref (ad 0 i) :: st) M :=
  V_callV (n := 2) (As := [v1, v2]) C hM hd2 (by decide) qc_X9_when qm_L_57 qi_X9_when ql_X9_when qn_CostsAge (by decide +kernel) hg wF_0 rfl rfl hw hd (fun r M' h => by obtain ⟨x, rfl, h⟩ := h; exact k x M' h)
theorem qm_L_60 : Cond.methodLink "CostsAgeLaw" 60 yX10_when ∈ lw_good := tg (tb 1131 (by decide +kernel)) rfl
theorem call_L_60 (C : CX p s m args c cc nL "CostsAgeLaw" D cy ad G A R d cells slots) {i : Nat} {v1 v2 : Value} {Qf : Int32 → wS → Prop} (hM : Ctr l D cy ad G d2 yX10_when cX10_when 4 (some .int) [.ref (ad 30 i), v1, v2] M (rI Qf)) (hd2 : d2 + 1 ≤ d) (hg : wG G 30 i) (hw : (st.map fun v => v.category).sum ≤ 8) (hd : decode cc pc = .ok (.invokevirtual 60, 3)) (k : ∀ x M', Qf x M' → V p l e R s m args below meth c nL D cy ad G A cells slots Q (pc + 3) lv (.int x :: st) M') : V p l e R s m args below meth c nL D cy ad G A cells slots Q pc lv (v2 :: v1 :: .ref (ad 30 i) :: st) M :=
  V_callV (n := 2) (As := [v1, v2]) C hM hd2 (by decide) qc_X10_when qm_L_60 qi_X10_when ql_X10_when qn_CostsAgeModel (by decide +kernel) hg wF_30 rfl rfl hw hd (fun r M' h => by obtain ⟨x, rfl, h⟩ := h; exact k x M' h)
theorem qm_L_61 : Cond.methodLink "CostsAgeLaw" 61 yX9_buy ∈ lw_good := tg (tb 574 (by decide +kernel)) rfl
theorem call_L_61 (C : CX p s m args c cc nL "CostsAgeLaw" D cy ad G A R d cells slots) {i : Nat} {v1 v2 : Value} {Qf : Int32 → wS → Prop} (hM : Ctr l D cy ad G d2 yX9_buy cX9_buy 4 (some .int) [.ref (ad 0 i), v1, v2] M (rI Qf)) (hd2 : d2 + 1 ≤ d) (hg : wG G 0 i) (hw : (st.map fun v => v.category).sum ≤ 8) (hd : decode cc pc = .ok (.invokevirtual 61, 3)) (k : ∀ x M', Qf x M' → V p l e R s m args below meth c nL D cy ad G A cells slots Q (pc + 3) lv (.int x :: st) M') : V p l e R s m args below meth c nL D cy ad G A cells slots Q pc lv (v2 :: v1 :: .ref (ad 0 i) :: st) M :=
  V_callV (n := 2) (As := [v1, v2]) C hM hd2 (by decide) qc_X9_buy qm_L_61 qi_X9_buy ql_X9_buy qn_CostsAge (by decide +kernel) hg wF_0 rfl rfl hw hd (fun r M' h => by obtain ⟨x, rfl, h⟩ := h; exact k x M' h)
theorem qm_L_64 : Cond.methodLink "CostsAgeLaw" 64 yX10_buy ∈ lw_good := tg (tb 1139 (by decide +kernel)) rfl
theorem call_L_64 (C : CX p s m args c cc nL "CostsAgeLaw" D cy ad G A R d cells slots) {i : Nat} {v1 v2 : Value} {Qf : Int32 → wS → Prop} (hM : Ctr l D cy ad G d2 yX10_buy cX10_buy 4 (some .int) [.ref (ad 30 i), v1, v2] M (rI Qf)) (hd2 : d2 + 1 ≤ d) (hg : wG G 30 i) (hw : (st.map fun v => v.category).sum ≤ 8) (hd : decode cc pc = .ok (.invokevirtual 64, 3)) (k : ∀ x M', Qf x M' → V p l e R s m args below meth c nL D cy ad G A cells slots Q (pc + 3) lv (.int x :: st) M') : V p l e R s m args below meth c nL D cy ad G A cells slots Q pc lv (v2 :: v1 :: .ref (ad 30 i) :: st) M :=
  V_callV (n := 2) (As := [v1, v2]) C hM hd2 (by decide) qc_X10_buy qm_L_64 qi_X10_buy ql_X10_buy qn_CostsAgeModel (by decide +kernel) hg wF_30 rfl rfl hw hd (fun r M' h => by obtain ⟨x, rfl, h⟩ := h; exact k x M' h)
theorem qm_L_65 : Cond.methodLink "CostsAgeLaw" 65 yX9_pass ∈ lw_good := tg (tb 578 (by decide +kernel)) rfl
theorem call_L_65 (C : CX p s m args c cc nL "CostsAgeLaw" D cy ad G A R d cells slots) {i : Nat} {Qf : Int32 → wS → Prop} (hM : Ctr l D cy ad G d2 yX9_pass cX9_pass 2 (some .int) [.ref (ad 0 i)] M (rI Qf)) (hd2 : d2 + 1 ≤ d) (hg : wG G 0 i) (hw : (st.map fun v => v.category).sum ≤ 8) (hd : decode cc pc = .ok (.invokevirtual 65, 3)) (k : ∀ x M', Qf x M' → V p l e R s m args below meth c nL D cy ad G A cells slots Q (pc + 3) lv (.int x :: st) M') : V p l e R s m args below meth c nL D cy ad G A cells slots Q pc lv (.ref (ad 0 i) :: st) M :=
  V_callV (n := 0) (As := []) C hM hd2 (by decide) qc_X9_pass qm_L_65 qi_X9_pass ql_X9_pass qn_CostsAge (by decide +kernel) hg wF_0 rfl rfl hw hd (fun r M' h => by obtain ⟨x, rfl, h⟩ := h; exact k x M' h)
theorem qm_L_68 : Cond.methodLink "CostsAgeLaw" 68 yX10_pass ∈ lw_good := tg (tb 1143 (by decide +kernel)) rfl
theorem call_L_68 (C : CX p s m args c cc nL "CostsAgeLaw" D cy ad G A R d cells slots) {i : Nat} {Qf : Int32 → wS → Prop} (hM : Ctr l D cy ad G d2 yX10_pass cX10_pass 2 (some .int) [.ref (ad 30 i)] M (rI Qf)) (hd2 : d2 + 1 ≤ d) (hg : wG G 30 i) (hw : (st.map fun v => v.category).sum ≤ 8) (hd : decode cc pc = .ok (.invokevirtual 68, 3)) (k : ∀ x M', Qf x M' → V p l e R s m args below meth c nL D cy ad G A cells slots Q (pc + 3) lv (.int x :: st) M') : V p l e R s m args below meth c nL D cy ad G A cells slots Q pc lv (.ref (ad 30 i) :: st) M :=
  V_callV (n := 0) (As := []) C hM hd2 (by decide) qc_X10_pass qm_L_68 qi_X10_pass ql_X10_pass qn_CostsAgeModel (by decide +kernel) hg wF_30 rfl rfl hw hd (fun r M' h => by obtain ⟨x, rfl, h⟩ := h; exact k x M' h)
theorem qm_L_69 : Cond.methodLink "CostsAgeLaw" 69 yX9_all ∈ lw_good := tg (tb 582 (by decide +kernel)) rfl
theorem call_L_69 (C : CX p s m args c cc nL "CostsAgeLaw" D cy ad G A R d cells slots) {i : Nat} {v1 : Value} {Qf : Int32 → wS → Prop} (hM : Ctr l D cy ad G d2 yX9_all cX9_all 3 (some .int) [.ref (ad 0 i), v1] M (rI Qf)) (hd2 : d2 + 1 ≤ d) (hg : wG G 0 i) (hw : (st.map fun v => v.category).sum ≤ 8) (hd : decode cc pc = .ok (.invokevirtual 69, 3)) (k : ∀ x M', Qf x M' → V p l e R s m args below meth c nL D cy ad G A cells slots Q (pc + 3) lv (.int x :: st) M') : V p l e R s m args below meth c nL D cy ad G A cells slots Q pc lv (v1 :: .ref (ad 0 i) :: st) M :=
  V_callV (n := 1) (As := [v1]) C hM hd2 (by decide) qc_X9_all qm_L_69 qi_X9_all ql_X9_all qn_CostsAge (by decide +kernel) hg wF_0 rfl rfl hw hd (fun r M' h => by obtain ⟨x, rfl, h⟩ := h; exact k x M' h)
theorem qm_L_72 : Cond.methodLink "CostsAgeLaw" 72 yX10_all ∈ lw_good := tg (tb 1147 (by decide +kernel)) rfl
theorem call_L_72 (C : CX p s m args c cc nL "CostsAgeLaw" D cy ad G A R d cells slots) {i : Nat} {v1 : Value} {Qf : Int32 → wS → Prop} (hM : Ctr l D cy ad G d2 yX10_all cX10_all 3 (some .int) [.ref (ad 30 i), v1] M (rI Qf)) (hd2 : d2 + 1 ≤ d) (hg : wG G 30 i) (hw : (st.map fun v => v.category).sum ≤ 8) (hd : decode cc pc = .ok (.invokevirtual 72, 3)) (k : ∀ x M', Qf x M' → V p l e R s m args below meth c nL D cy ad G A cells slots Q (pc + 3) lv (.int x :: st) M') : V p l e R s m args below meth c nL D cy ad G A cells slots Q pc lv (v1 :: .ref (ad 30 i) :: st) M :=
  V_callV (n := 1) (As := [v1]) C hM hd2 (by decide) qc_X10_all qm_L_72 qi_X10_all ql_X10_all qn_CostsAgeModel (by decide +kernel) hg wF_30 rfl rfl hw hd (fun r M' h => by obtain ⟨x, rfl, h⟩ := h; exact k x M' h)
theorem qm_L_73 : Cond.methodLink "CostsAgeLaw" 73 yX9_heap ∈ lw_good := tg (tb 604 (by decide +kernel)) rfl
theorem call_L_73 (C : CX p s m args c cc nL "CostsAgeLaw" D cy ad G A R d cells slots) {i : Nat} {v1 : Value} {Qf : Int32 → wS → Prop} (hM : Ctr l D cy ad G d2 yX9_heap cX9_heap 2 (some .int) [.ref (ad 0 i), v1] M (rI Qf)) (hd2 : d2 + 1 ≤ d) (hg : wG G 0 i) (hw : (st.map fun v => v.category).sum ≤ 8) (hd : decode cc pc = .ok (.invokevirtual 73, 3)) (k : ∀ x M', Qf x M' → V p l e R s m args below meth c nL D cy ad G A cells slots Q (pc + 3) lv (.int x :: st) M') : V p l e R s m args below meth c nL D cy ad G A cells slots Q pc lv (v1 :: .ref (ad 0 i) :: st) M :=
  V_callV (n := 1) (As := [v1]) C hM hd2 (by decide) qc_X9_heap qm_L_73 qi_X9_heap ql_X9_heap qn_CostsAge (by decide +kernel) hg wF_0 rfl rfl hw hd (fun r M' h => by obtain ⟨x, rfl, h⟩ := h; exact k x M' h)
theorem qm_L_76 : Cond.methodLink "CostsAgeLaw" 76 yX10_heap ∈ lw_good := tg (tb 1155 (by decide +kernel)) rfl
theorem call_L_76 (C : CX p s m args c cc nL "CostsAgeLaw" D cy ad G A R d cells slots) {i : Nat} {v1 : Value} {Qf : Int32 → wS → Prop} (hM : Ctr l D cy ad G d2 yX10_heap cX10_heap 3 (some .int) [.ref (ad 30 i), v1] M (rI Qf)) (hd2 : d2 + 1 ≤ d) (hg : wG G 30 i) (hw : (st.map fun v => v.category).sum ≤ 8) (hd : decode cc pc = .ok (.invokevirtual 76, 3)) (k : ∀ x M', Qf x M' → V p l e R s m args below meth c nL D cy ad G A cells slots Q (pc + 3) lv (.int x :: st) M') : V p l e R s m args below meth c nL D cy ad G A cells slots Q pc lv (v1 :: .ref (ad 30 i) :: st) M :=
  V_callV (n := 1) (As := [v1]) C hM hd2 (by decide) qc_X10_heap qm_L_76 qi_X10_heap ql_X10_heap qn_CostsAgeModel (by decide +kernel) hg wF_30 rfl rfl hw hd (fun r M' h => by obtain ⟨x, rfl, h⟩ := h; exact k x M' h)
theorem qm_L_77 : Cond.methodLink "CostsAgeLaw" 77 yX9_eachOne ∈ lw_good := tg (tb 613 (by decide +kernel)) rfl
theorem call_L_77 (C : CX p s m args c cc nL "CostsAgeLaw" D cy ad G A R d cells slots) {i : Nat} {Qf : Int32 → wS → Prop} (hM : Ctr l D cy ad G d2 yX9_eachOne cX9_eachOne 6 (some .int) [.ref (ad 0 i)] M (rI Qf)) (hd2 : d2 + 1 ≤ d) (hg : wG G 0 i) (hw : (st.map fun v => v.category).sum ≤ 8) (hd : decode cc pc = .ok (.invokevirtual 77, 3)) (k : ∀ x M', Qf x M' → V p l e R s m args below meth c nL D cy ad G A cells slots Q (pc + 3) lv (.int x :: st) M') : V p l e R s m args below meth c nL D cy ad G A cells slots Q pc lv (.ref (ad 0 i) :: st) M :=
  V_callV (n := 0) (As := []) C hM hd2 (by decide) qc_X9_eachOne qm_L_77 qi_X9_eachOne ql_X9_eachOne qn_CostsAge (by decide +kernel) hg wF_0 rfl rfl hw hd (fun r M' h => by obtain ⟨x, rfl, h⟩ := h; exact k x M' h)
theorem qm_L_80 : Cond.methodLink "CostsAgeLaw" 80 yX10_eachOne ∈ lw_good := tg (tb 1159 (by decide +kernel)) rfl
theorem call_L_80 (C : CX p s m args c cc nL "CostsAgeLaw" D cy ad G A R d cells slots) {i : Nat} {Qf : Int32 → wS → Prop} (hM : Ctr l D cy ad G d2 yX10_eachOne cX10_eachOne 6 (some .int) [.ref (ad 30 i)] M (rI Qf)) (hd2 : d2 + 1 ≤ d) (hg : wG G 30 i) (hw : (st.map fun v => v.category).sum ≤ 8) (hd : decode cc pc = .ok (.invokevirtual 80, 3)) (k : ∀ x M', Qf x M' → V p l e R s m args below meth c nL D cy ad G A cells slots Q (pc + 3) lv (.int x :: st) M') : V p l e R s m args below meth c nL D cy ad G A cells slots Q pc lv (.ref (ad 30 i) :: st) M :=
  V_callV (n := 0) (As := []) C hM hd2 (by decide) qc_X10_eachOne qm_L_80 qi_X10_eachOne ql_X10_eachOne qn_CostsAgeModel (by decide +kernel) hg wF_30 rfl rfl hw hd (fun r M' h => by obtain ⟨x, rfl, h⟩ := h; exact k x M' h)
theorem qm_L_81 : Cond.methodLink "CostsAgeLaw" 81 yX9_gain ∈ lw_good := tg (tb 634 (by decide +kernel)) rfl
theorem call_L_81 (C : CX p s m args c cc nL "CostsAgeLaw" D cy ad G A R d cells slots) {i : Nat} {v1 v2 : Value} {Qf : Int64 → wS → Prop} (hM : Ctr l D cy ad G d2 yX9_gain cX9_gain 8 (some .long) [.ref (ad 0 i), v1, v2] M (rL Qf)) (hd2 : d2 + 1 ≤ d) (hg : wG G 0 i) (hw : (st.map fun v => v.category).sum ≤ 8) (hd : decode cc pc = .ok (.invokevirtual 81, 3)) (k : ∀ x M', Qf x M' → V p l e R s m args below meth c nL D cy ad G A cells slots Q (pc + 3) lv (.long x :: st) M') : V p l e R s m args below meth c nL D cy ad G A cells slots Q pc lv (v2 :: v1 :: .ref (ad 0 i) :: st) M :=
  V_callV (n := 2) (As := [v1, v2]) C hM hd2 (by decide) qc_X9_gain qm_L_81 qi_X9_gain ql_X9_gain qn_CostsAge (by decide +kernel) hg wF_0 rfl rfl hw hd (fun r M' h => by obtain ⟨x, rfl, h⟩ := h; exact k x M' h)
theorem qm_L_85 : Cond.methodLink "CostsAgeLaw" 85 yX10_gain ∈ lw_good := tg (tb 1163 (by decide +kernel)) rfl
theorem call_L_85 (C : CX p s m args c cc nL "CostsAgeLaw" D cy ad G A R d cells slots) {i : Nat} {v1 v2 : Value} {Qf : Int64 → wS → Prop} (hM : Ctr l D cy ad G d2 yX10_gain cX10_gain 8 (some .long) [.ref (ad 30 i), v1, v2] M (rL Qf)) (hd2 : d2 + 1 ≤ d) (hg : wG G 30 i) (hw : (st.map fun v => v.category).sum ≤ 8) (hd : decode cc pc = .ok (.invokevirtual 85, 3)) (k : ∀ x M', Qf x M' → V p l e R s m args below meth c nL D cy ad G A cells slots Q (pc + 3) lv (.long x :: st) M') : V p l e R s m args below meth c nL D cy ad G A cells slots Q pc lv (v2 :: v1 :: .ref (ad 30 i) :: st) M :=
  V_callV (n := 2) (As := [v1, v2]) C hM hd2 (by decide) qc_X10_gain qm_L_85 qi_X10_gain ql_X10_gain qn_CostsAgeModel (by decide +kernel) hg wF_30 rfl rfl hw hd (fun r M' h => by obtain ⟨x, rfl, h⟩ := h; exact k x M' h)
theorem qm_L_86 : Cond.methodLink "CostsAgeLaw" 86 yX9_year ∈ lw_good := tg (tb 643 (by decide +kernel)) rfl
theorem call_L_86 (C : CX p s m args c cc nL "CostsAgeLaw" D cy ad G A R d cells slots) {i : Nat} {Qf : Int32 → wS → Prop} (hM : Ctr l D cy ad G d2 yX9_year cX9_year 3 (some .int) [.ref (ad 0 i)] M (rI Qf)) (hd2 : d2 + 1 ≤ d) (hg : wG G 0 i) (hw : (st.map fun v => v.category).sum ≤ 8) (hd : decode cc pc = .ok (.invokevirtual 86, 3)) (k : ∀ x M', Qf x M' → V p l e R s m args below meth c nL D cy ad G A cells slots Q (pc + 3) lv (.int x :: st) M') : V p l e R s m args below meth c nL D cy ad G A cells slots Q pc lv (.ref (ad 0 i) :: st) M :=
  V_callV (n := 0) (As := []) C hM hd2 (by decide) qc_X9_year qm_L_86 qi_X9_year ql_X9_year qn_CostsAge (by decide +kernel) hg wF_0 rfl rfl hw hd (fun r M' h => by obtain ⟨x, rfl, h⟩ := h; exact k x M' h)
theorem qm_L_89 : Cond.methodLink "CostsAgeLaw" 89 yX10_year ∈ lw_good := tg (tb 1168 (by decide +kernel)) rfl
theorem call_L_89 (C : CX p s m args c cc nL "CostsAgeLaw" D cy ad G A R d cells slots) {i : Nat} {Qf : Int32 → wS → Prop} (hM : Ctr l D cy ad G d2 yX10_year cX10_year 3 (some .int) [.ref (ad 30 i)] M (rI Qf)) (hd2 : d2 + 1 ≤ d) (hg : wG G 30 i) (hw : (st.map fun v => v.category).sum ≤ 8) (hd : decode cc pc = .ok (.invokevirtual 89, 3)) (k : ∀ x M', Qf x M' → V p l e R s m args below meth c nL D cy ad G A cells slots Q (pc + 3) lv (.int x :: st) M') : V p l e R s m args below meth c nL D cy ad G A cells slots Q pc lv (.ref (ad 30 i) :: st) M :=
  V_callV (n := 0) (As := []) C hM hd2 (by decide) qc_X10_year qm_L_89 qi_X10_year ql_X10_year qn_CostsAgeModel (by decide +kernel) hg wF_30 rfl rfl hw hd (fun r M' h => by obtain ⟨x, rfl, h⟩ := h; exact k x M' h)
theorem qm_L_90 : Cond.methodLink "CostsAgeLaw" 90 yX9_rest ∈ lw_good := tg (tb 651 (by decide +kernel)) rfl
theorem call_L_90 (C : CX p s m args c cc nL "CostsAgeLaw" D cy ad G A R d cells slots) {i : Nat} {v1 : Value} {Qf : Int32 → wS → Prop} (hM : Ctr l D cy ad G d2 yX9_rest cX9_rest 5 (some .int) [.ref (ad 0 i), v1] M (rI Qf)) (hd2 : d2 + 1 ≤ d) (hg : wG G 0 i) (hw : (st.map fun v => v.category).sum ≤ 8) (hd : decode cc pc = .ok (.invokevirtual 90, 3)) (k : ∀ x M', Qf x M' → V p l e R s m args below meth c nL D cy ad G A cells slots Q (pc + 3) lv (.int x :: st) M') : V p l e R s m args below meth c nL D cy ad G A cells slots Q pc lv (v1 :: .ref (ad 0 i) :: st) M :=
  V_callV (n := 1) (As := [v1]) C hM hd2 (by decide) qc_X9_rest qm_L_90 qi_X9_rest ql_X9_rest qn_CostsAge (by decide +kernel) hg wF_0 rfl rfl hw hd (fun r M' h => by obtain ⟨x, rfl, h⟩ := h; exact k x M' h)
theorem qm_L_93 : Cond.methodLink "CostsAgeLaw" 93 yX10_rest ∈ lw_good := tg (tb 1172 (by decide +kernel)) rfl
theorem call_L_93 (C : CX p s m args c cc nL "CostsAgeLaw" D cy ad G A R d cells slots) {i : Nat} {v1 : Value} {Qf : Int32 → wS → Prop} (hM : Ctr l D cy ad G d2 yX10_rest cX10_rest 10 (some .int) [.ref (ad 30 i), v1] M (rI Qf)) (hd2 : d2 + 1 ≤ d) (hg : wG G 30 i) (hw : (st.map fun v => v.category).sum ≤ 8) (hd : decode cc pc = .ok (.invokevirtual 93, 3)) (k : ∀ x M', Qf x M' → V p l e R s m args below meth c nL D cy ad G A cells slots Q (pc + 3) lv (.int x :: st) M') : V p l e R s m args below meth c nL D cy ad G A cells slots Q pc lv (v1 :: .ref (ad 30 i) :: st) M :=
  V_callV (n := 1) (As := [v1]) C hM hd2 (by decide) qc_X10_rest qm_L_93 qi_X10_rest ql_X10_rest qn_CostsAgeModel (by decide +kernel) hg wF_30 rfl rfl hw hd (fun r M' h => by obtain ⟨x, rfl, h⟩ := h; exact k x M' h)
theorem qm_L_94 : Cond.methodLink "CostsAgeLaw" 94 yX9_lies ∈ lw_good := tg (tb 669 (by decide +kernel)) rfl
theorem call_L_94 (C : CX p s m args c cc nL "CostsAgeLaw" D cy ad G A R d cells slots) {i : Nat} {v1 : Value} {Qf : Int32 → wS → Prop} (hM : Ctr l D cy ad G d2 yX9_lies cX9_lies 5 (some .int) [.ref (ad 0 i), v1] M (rI Qf)) (hd2 : d2 + 1 ≤ d) (hg : wG G 0 i) (hw : (st.map fun v => v.category).sum ≤ 8) (hd : decode cc pc = .ok (.invokevirtual 94, 3)) (k : ∀ x M', Qf x M' → V p l e R s m args below meth c nL D cy ad G A cells slots Q (pc + 3) lv (.int x :: st) M') : V p l e R s m args below meth c nL D cy ad G A cells slots Q pc lv (v1 :: .ref (ad 0 i) :: st) M :=
  V_callV (n := 1) (As := [v1]) C hM hd2 (by decide) qc_X9_lies qm_L_94 qi_X9_lies ql_X9_lies qn_CostsAge (by decide +kernel) hg wF_0 rfl rfl hw hd (fun r M' h => by obtain ⟨x, rfl, h⟩ := h; exact k x M' h)
theorem qm_L_97 : Cond.methodLink "CostsAgeLaw" 97 yX10_lies ∈ lw_good := tg (tb 1180 (by decide +kernel)) rfl
theorem call_L_97 (C : CX p s m args c cc nL "CostsAgeLaw" D cy ad G A R d cells slots) {i : Nat} {v1 : Value} {Qf : Int32 → wS → Prop} (hM : Ctr l D cy ad G d2 yX10_lies cX10_lies 4 (some .int) [.ref (ad 30 i), v1] M (rI Qf)) (hd2 : d2 + 1 ≤ d) (hg : wG G 30 i) (hw : (st.map fun v => v.category).sum ≤ 8) (hd : decode cc pc = .ok (.invokevirtual 97, 3)) (k : ∀ x M', Qf x M' → V p l e R s m args below meth c nL D cy ad G A cells slots Q (pc + 3) lv (.int x :: st) M') : V p l e R s m args below meth c nL D cy ad G A cells slots Q pc lv (v1 :: .ref (ad 30 i) :: st) M :=
  V_callV (n := 1) (As := [v1]) C hM hd2 (by decide) qc_X10_lies qm_L_97 qi_X10_lies ql_X10_lies qn_CostsAgeModel (by decide +kernel) hg wF_30 rfl rfl hw hd (fun r M' h => by obtain ⟨x, rfl, h⟩ := h; exact k x M' h)
theorem qm_L_98 : Cond.methodLink "CostsAgeLaw" 98 yX9_judge ∈ lw_good := tg (tb 680 (by decide +kernel)) rfl
theorem call_L_98 (C : CX p s m args c cc nL "CostsAgeLaw" D cy ad G A R d cells slots) {i : Nat} {v1 v2 : Value} {Qf : Int32 → wS → Prop} (hM : Ctr l D cy ad G d2 yX9_judge cX9_judge 9 (some .int) [.ref (ad 0 i), v1, v2] M (rI Qf)) (hd2 : d2 + 1 ≤ d) (hg : wG G 0 i) (hw : (st.map fun v => v.category).sum ≤ 8) (hd : decode cc pc = .ok (.invokevirtual 98, 3)) (k : ∀ x M', Qf x M' → V p l e R s m args below meth c nL D cy ad G A cells slots Q (pc + 3) lv (.int x :: st) M') : V p l e R s m args below meth c nL D cy ad G A cells slots Q pc lv (v2 :: v1 :: .ref (ad 0 i) :: st) M :=
  V_callV (n := 2) (As := [v1, v2]) C hM hd2 (by decide) qc_X9_judge qm_L_98 qi_X9_judge ql_X9_judge qn_CostsAge (by decide +kernel) hg wF_0 rfl rfl hw hd (fun r M' h => by obtain ⟨x, rfl, h⟩ := h; exact k x M' h)
theorem qm_L_101 : Cond.methodLink "CostsAgeLaw" 101 yX10_judge ∈ lw_good := tg (tb 1188 (by decide +kernel)) rfl
theorem call_L_101 (C : CX p s m args c cc nL "CostsAgeLaw" D cy ad G A R d cells slots) {i : Nat} {v1 v2 : Value} {Qf : Int32 → wS → Prop} (hM : Ctr l D cy ad G d2 yX10_judge cX10_judge 10 (some .int) [.ref (ad 30 i), v1, v2] M (rI Qf)) (hd2 : d2 + 1 ≤ d) (hg : wG G 30 i) (hw : (st.map fun v => v.category).sum ≤ 8) (hd : decode cc pc = .ok (.invokevirtual 101, 3)) (k : ∀ x M', Qf x M' → V p l e R s m args below meth c nL D cy ad G A cells slots Q (pc + 3) lv (.int x :: st) M') : V p l e R s m args below meth c nL D cy ad G A cells slots Q pc lv (v2 :: v1 :: .ref (ad 30 i) :: st) M :=
  V_callV (n := 2) (As := [v1, v2]) C hM hd2 (by decide) qc_X10_judge qm_L_101 qi_X10_judge ql_X10_judge qn_CostsAgeModel (by decide +kernel) hg wF_30 rfl rfl hw hd (fun r M' h => by obtain ⟨x, rfl, h⟩ := h; exact k x M' h)
theorem qm_L_102 : Cond.methodLink "CostsAgeLaw" 102 yX9_drawn ∈ lw_good := tg (tb 688 (by decide +kernel)) rfl
theorem call_L_102 (C : CX p s m args c cc nL "CostsAgeLaw" D cy ad G A R d cells slots) {i : Nat} {v1 : Value} {Qf : Int32 → wS → Prop} (hM : Ctr l D cy ad G d2 yX9_drawn cX9_drawn 6 (some .int) [.ref (ad 0 i), v1] M (rI Qf)) (hd2 : d2 + 1 ≤ d) (hg : wG G 0 i) (hw : (st.map fun v => v.category).sum ≤ 8) (hd : decode cc pc = .ok (.invokevirtual 102, 3)) (k : ∀ x M', Qf x M' → V p l e R s m args below meth c nL D cy ad G A cells slots Q (pc + 3) lv (.int x :: st) M') : V p l e R s m args below meth c nL D cy ad G A cells slots Q pc lv (v1 :: .ref (ad 0 i) :: st) M :=
  V_callV (n := 1) (As := [v1]) C hM hd2 (by decide) qc_X9_drawn qm_L_102 qi_X9_drawn ql_X9_drawn qn_CostsAge (by decide +kernel) hg wF_0 rfl rfl hw hd (fun r M' h => by obtain ⟨x, rfl, h⟩ := h; exact k x M' h)
theorem qm_L_105 : Cond.methodLink "CostsAgeLaw" 105 yX10_drawn ∈ lw_good := tg (tb 1192 (by decide +kernel)) rfl
theorem call_L_105 (C : CX p s m args c cc nL "CostsAgeLaw" D cy ad G A R d cells slots) {i : Nat} {v1 : Value} {Qf : Int32 → wS → Prop} (hM : Ctr l D cy ad G d2 yX10_drawn cX10_drawn 6 (some .int) [.ref (ad 30 i), v1] M (rI Qf)) (hd2 : d2 + 1 ≤ d) (hg : wG G 30 i) (hw : (st.map fun v => v.category).sum ≤ 8) (hd : decode cc pc = .ok (.invokevirtual 105, 3)) (k : ∀ x M', Qf x M' → V p l e R s m args below meth c nL D cy ad G A cells slots Q (pc + 3) lv (.int x :: st) M') : V p l e R s m args below meth c nL D cy ad G A cells slots Q pc lv (v1 :: .ref (ad 30 i) :: st) M :=
  V_callV (n := 1) (As := [v1]) C hM hd2 (by decide) qc_X10_drawn qm_L_105 qi_X10_drawn ql_X10_drawn qn_CostsAgeModel (by decide +kernel) hg wF_30 rfl rfl hw hd (fun r M' h => by obtain ⟨x, rfl, h⟩ := h; exact k x M' h)
theorem qm_L_106 : Cond.methodLink "CostsAgeLaw" 106 yX9_mean ∈ lw_good := tg (tb 693 (by decide +kernel)) rfl
theorem call_L_106 (C : CX p s m args c cc nL "CostsAgeLaw" D cy ad G A R d cells slots) {i : Nat} {v1 : Value} {Qf : Int64 → wS → Prop} (hM : Ctr l D cy ad G d2 yX9_mean cX9_mean 4 (some .long) [.ref (ad 0 i), v1] M (rL Qf)) (hd2 : d2 + 1 ≤ d) (hg : wG G 0 i) (hw : (st.map fun v => v.category).sum ≤ 8) (hd : decode cc pc = .ok (.invokevirtual 106, 3)) (k : ∀ x M', Qf x M' → V p l e R s m args below meth c nL D cy ad G A cells slots Q (pc + 3) lv (.long x :: st) M') : V p l e R s m args below meth c nL D cy ad G A cells slots Q pc lv (v1 :: .ref (ad 0 i) :: st) M :=
  V_callV (n := 1) (As := [v1]) C hM hd2 (by decide) qc_X9_mean qm_L_106 qi_X9_mean ql_X9_mean qn_CostsAge (by decide +kernel) hg wF_0 rfl rfl hw hd (fun r M' h => by obtain ⟨x, rfl, h⟩ := h; exact k x M' h)
theorem qm_L_110 : Cond.methodLink "CostsAgeLaw" 110 yX10_mean ∈ lw_good := tg (tb 1197 (by decide +kernel)) rfl
theorem call_L_110 (C : CX p s m args c cc nL "CostsAgeLaw" D cy ad G A R d cells slots) {i : Nat} {v1 : Value} {Qf : Int64 → wS → Prop} (hM : Ctr l D cy ad G d2 yX10_mean cX10_mean 10 (some .long) [.ref (ad 30 i), v1] M (rL Qf)) (hd2 : d2 + 1 ≤ d) (hg : wG G 30 i) (hw : (st.map fun v => v.category).sum ≤ 8) (hd : decode cc pc = .ok (.invokevirtual 110, 3)) (k : ∀ x M', Qf x M' → V p l e R s m args below meth c nL D cy ad G A cells slots Q (pc + 3) lv (.long x :: st) M') : V p l e R s m args below meth c nL D cy ad G A cells slots Q pc lv (v1 :: .ref (ad 30 i) :: st) M :=
  V_callV (n := 1) (As := [v1]) C hM hd2 (by decide) qc_X10_mean qm_L_110 qi_X10_mean ql_X10_mean qn_CostsAgeModel (by decide +kernel) hg wF_30 rfl rfl hw hd (fun r M' h => by obtain ⟨x, rfl, h⟩ := h; exact k x M' h)
theorem qm_L_111 : Cond.methodLink "CostsAgeLaw" 111 yX9_image ∈ lw_good := tg (tb 697 (by decide +kernel)) rfl
theorem call_L_111 (C : CX p s m args c cc nL "CostsAgeLaw" D cy ad G A R d cells slots) {i : Nat} {Qf : Int32 → wS → Prop} (hM : Ctr l D cy ad G d2 yX9_image cX9_image 1 (some .int) [.ref (ad 0 i)] M (rI Qf)) (hd2 : d2 + 1 ≤ d) (hg : wG G 0 i) (hw : (st.map fun v => v.category).sum ≤ 8) (hd : decode cc pc = .ok (.invokevirtual 111, 3)) (k : ∀ x M', Qf x M' → V p l e R s m args below meth c nL D cy ad G A cells slots Q (pc + 3) lv (.int x :: st) M') : V p l e R s m args below meth c nL D cy ad G A cells slots Q pc lv (.ref (ad 0 i) :: st) M :=
  V_callV (n := 0) (As := []) C hM hd2 (by decide) qc_X9_image qm_L_111 qi_X9_image ql_X9_image qn_CostsAge (by decide +kernel) hg wF_0 rfl rfl hw hd (fun r M' h => by obtain ⟨x, rfl, h⟩ := h; exact k x M' h)
theorem qm_L_114 : Cond.methodLink "CostsAgeLaw" 114 yX10_image ∈ lw_good := tg (tb 1201 (by decide +kernel)) rfl
theorem call_L_114 (C : CX p s m args c cc nL "CostsAgeLaw" D cy ad G A R d cells slots) {i : Nat} {Qf : Int32 → wS → Prop} (hM : Ctr l D cy ad G d2 yX10_image cX10_image 2 (some .int) [.ref (ad 30 i)] M (rI Qf)) (hd2 : d2 + 1 ≤ d) (hg : wG G 30 i) (hw : (st.map fun v => v.category).sum ≤ 8) (hd : decode cc pc = .ok (.invokevirtual 114, 3)) (k : ∀ x M', Qf x M' → V p l e R s m args below meth c nL D cy ad G A cells slots Q (pc + 3) lv (.int x :: st) M') : V p l e R s m args below meth c nL D cy ad G A cells slots Q pc lv (.ref (ad 30 i) :: st) M :=
  V_callV (n := 0) (As := []) C hM hd2 (by decide) qc_X10_image qm_L_114 qi_X10_image ql_X10_image qn_CostsAgeModel (by decide +kernel) hg wF_30 rfl rfl hw hd (fun r M' h => by obtain ⟨x, rfl, h⟩ := h; exact k x M' h)
theorem qm_L_115 : Cond.methodLink "CostsAgeLaw" 115 yX9_back ∈ lw_good := tg (tb 708 (by decide +kernel)) rfl
theorem call_L_115 (C : CX p s m args c cc nL "CostsAgeLaw" D cy ad G A R d cells slots) {i : Nat} {Qf : Int32 → wS → Prop} (hM : Ctr l D cy ad G d2 yX9_back cX9_back 1 (some .int) [.ref (ad 0 i)] M (rI Qf)) (hd2 : d2 + 1 ≤ d) (hg : wG G 0 i) (hw : (st.map fun v => v.category).sum ≤ 8) (hd : decode cc pc = .ok (.invokevirtual 115, 3)) (k : ∀ x M', Qf x M' → V p l e R s m args below meth c nL D cy ad G A cells slots Q (pc + 3) lv (.int x :: st) M') : V p l e R s m args below meth c nL D cy ad G A cells slots Q pc lv (.ref (ad 0 i) :: st) M :=
  V_callV (n := 0) (As := []) C hM hd2 (by decide) qc_X9_back qm_L_115 qi_X9_back ql_X9_back qn_CostsAge (by decide +kernel) hg wF_0 rfl rfl hw hd (fun r M' h => by obtain ⟨x, rfl, h⟩ := h; exact k x M' h)
theorem qm_L_118 : Cond.methodLink "CostsAgeLaw" 118 yX10_back ∈ lw_good := tg (tb 1205 (by decide +kernel)) rfl
theorem call_L_118 (C : CX p s m args c cc nL "CostsAgeLaw" D cy ad G A R d cells slots) {i : Nat} {Qf : Int32 → wS → Prop} (hM : Ctr l D cy ad G d2 yX10_back cX10_back 2 (some .int) [.ref (ad 30 i)] M (rI Qf)) (hd2 : d2 + 1 ≤ d) (hg : wG G 30 i) (hw : (st.map fun v => v.category).sum ≤ 8) (hd : decode cc pc = .ok (.invokevirtual 118, 3)) (k : ∀ x M', Qf x M' → V p l e R s m args below meth c nL D cy ad G A cells slots Q (pc + 3) lv (.int x :: st) M') : V p l e R s m args below meth c nL D cy ad G A cells slots Q pc lv (.ref (ad 30 i) :: st) M :=
  V_callV (n := 0) (As := []) C hM hd2 (by decide) qc_X10_back qm_L_118 qi_X10_back ql_X10_back qn_CostsAgeModel (by decide +kernel) hg wF_30 rfl rfl hw hd (fun r M' h => by obtain ⟨x, rfl, h⟩ := h; exact k x M' h)
theorem qm_L_119 : Cond.methodLink "CostsAgeLaw" 119 yX9_count ∈ lw_good := tg (tb 712 (by decide +kernel)) rfl
theorem call_L_119 (C : CX p s m args c cc nL "CostsAgeLaw" D cy ad G A R d cells slots) {i : Nat} {v1 : Value} {Qf : Int32 → wS → Prop} (hM : Ctr l D cy ad G d2 yX9_count cX9_count 2 (some .int) [.ref (ad 0 i), v1] M (rI Qf)) (hd2 : d2 + 1 ≤ d) (hg : wG G 0 i) (hw : (st.map fun v => v.category).sum ≤ 8) (hd : decode cc pc = .ok (.invokevirtual 119, 3)) (k : ∀ x M', Qf x M' → V p l e R s m args below meth c nL D cy ad G A cells slots Q (pc + 3) lv (.int x :: st) M') : V p l e R s m args below meth c nL D cy ad G A cells slots Q pc lv (v1 :: .ref (ad 0 i) :: st) M :=
  V_callV (n := 1) (As := [v1]) C hM hd2 (by decide) qc_X9_count qm_L_119 qi_X9_count ql_X9_count qn_CostsAge (by decide +kernel) hg wF_0 rfl rfl hw hd (fun r M' h => by obtain ⟨x, rfl, h⟩ := h; exact k x M' h)
theorem qm_L_122 : Cond.methodLink "CostsAgeLaw" 122 yX10_count ∈ lw_good := tg (tb 1209 (by decide +kernel)) rfl
theorem call_L_122 (C : CX p s m args c cc nL "CostsAgeLaw" D cy ad G A R d cells slots) {i : Nat} {v1 : Value} {Qf : Int32 → wS → Prop} (hM : Ctr l D cy ad G d2 yX10_count cX10_count 2 (some .int) [.ref (ad 30 i), v1] M (rI Qf)) (hd2 : d2 + 1 ≤ d) (hg : wG G 30 i) (hw : (st.map fun v => v.category).sum ≤ 8) (hd : decode cc pc = .ok (.invokevirtual 122, 3)) (k : ∀ x M', Qf x M' → V p l e R s m args below meth c nL D cy ad G A cells slots Q (pc + 3) lv (.int x :: st) M') : V p l e R s m args below meth c nL D cy ad G A cells slots Q pc lv (v1 :: .ref (ad 30 i) :: st) M :=
  V_callV (n := 1) (As := [v1]) C hM hd2 (by decide) qc_X10_count qm_L_122 qi_X10_count ql_X10_count qn_CostsAgeModel (by decide +kernel) hg wF_30 rfl rfl hw hd (fun r M' h => by obtain ⟨x, rfl, h⟩ := h; exact k x M' h)
theorem qm_L_123 : Cond.methodLink "CostsAgeLaw" 123 yX9_sheet ∈ lw_good := tg (tb 716 (by decide +kernel)) rfl
theorem call_L_123 (C : CX p s m args c cc nL "CostsAgeLaw" D cy ad G A R d cells slots) {i : Nat} {v1 v2 v3 : Value} {Qf : Int32 → wS → Prop} (hM : Ctr l D cy ad G d2 yX9_sheet cX9_sheet 4 (some .int) [.ref (ad 0 i), v1, v2, v3] M (rI Qf)) (hd2 : d2 + 1 ≤ d) (hg : wG G 0 i) (hw : (st.map fun v => v.category).sum ≤ 8) (hd : decode cc pc = .ok (.invokevirtual 123, 3)) (k : ∀ x M', Qf x M' → V p l e R s m args below meth c nL D cy ad G A cells slots Q (pc + 3) lv (.int x :: st) M') : V p l e R s m args below meth c nL D cy ad G A cells slots Q pc lv (v3 :: v2 :: v1 :: .ref (ad 0 i) :: st) M :=
  V_callV (n := 3) (As := [v1, v2, v3]) C hM hd2 (by decide) qc_X9_sheet qm_L_123 qi_X9_sheet ql_X9_sheet qn_CostsAge (by decide +kernel) hg wF_0 rfl rfl hw hd (fun r M' h => by obtain ⟨x, rfl, h⟩ := h; exact k x M' h)
theorem qm_L_126 : Cond.methodLink "CostsAgeLaw" 126 yX10_sheet ∈ lw_good := tg (tb 1213 (by decide +kernel)) rfl
theorem call_L_126 (C : CX p s m args c cc nL "CostsAgeLaw" D cy ad G A R d cells slots) {i : Nat} {v1 v2 v3 : Value} {Qf : Int32 → wS → Prop} (hM : Ctr l D cy ad G d2 yX10_sheet cX10_sheet 5 (some .int) [.ref (ad 30 i), v1, v2, v3] M (rI Qf)) (hd2 : d2 + 1 ≤ d) (hg : wG G 30 i) (hw : (st.map fun v => v.category).sum ≤ 8) (hd : decode cc pc = .ok (.invokevirtual 126, 3)) (k : ∀ x M', Qf x M' → V p l e R s m args below meth c nL D cy ad G A cells slots Q (pc + 3) lv (.int x :: st) M') : V p l e R s m args below meth c nL D cy ad G A cells slots Q pc lv (v3 :: v2 :: v1 :: .ref (ad 30 i) :: st) M :=
  V_callV (n := 3) (As := [v1, v2, v3]) C hM hd2 (by decide) qc_X10_sheet qm_L_126 qi_X10_sheet ql_X10_sheet qn_CostsAgeModel (by decide +kernel) hg wF_30 rfl rfl hw hd (fun r M' h => by obtain ⟨x, rfl, h⟩ := h; exact k x M' h)
theorem qm_L_127 : Cond.methodLink "CostsAgeLaw" 127 yX9_cell ∈ lw_good := tg (tb 727 (by decide +kernel)) rfl
theorem call_L_127 (C : CX p s m args c cc nL "CostsAgeLaw" D cy ad G A R d cells slots) {i : Nat} {v1 v2 v3 : Value} {Qf : Int32 → wS → Prop} (hM : Ctr l D cy ad G d2 yX9_cell cX9_cell 5 (some .int) [.ref (ad 0 i), v1, v2, v3] M (rI Qf)) (hd2 : d2 + 1 ≤ d) (hg : wG G 0 i) (hw : (st.map fun v => v.category).sum ≤ 8) (hd : decode cc pc = .ok (.invokevirtual 127, 3)) (k : ∀ x M', Qf x M' → V p l e R s m args below meth c nL D cy ad G A cells slots Q (pc + 3) lv (.int x :: st) M') : V p l e R s m args below meth c nL D cy ad G A cells slots Q pc lv (v3 :: v2 :: v1 :: .ref (ad 0 i) :: st) M :=
  V_callV (n := 3) (As := [v1, v2, v3]) C hM hd2 (by decide) qc_X9_cell qm_L_127 qi_X9_cell ql_X9_cell qn_CostsAge (by decide +kernel) hg wF_0 rfl rfl hw hd (fun r M' h => by obtain ⟨x, rfl, h⟩ := h; exact k x M' h)
theorem qm_L_130 : Cond.methodLink "CostsAgeLaw" 130 yX10_cell ∈ lw_good := tg (tb 1219 (by decide +kernel)) rfl
theorem call_L_130 (C : CX p s m args c cc nL "CostsAgeLaw" D cy ad G A R d cells slots) {i : Nat} {v1 v2 v3 : Value} {Qf : Int32 → wS → Prop} (hM : Ctr l D cy ad G d2 yX10_cell cX10_cell 4 (some .int) [.ref (ad 30 i), v1, v2, v3] M (rI Qf)) (hd2 : d2 + 1 ≤ d) (hg : wG G 30 i) (hw : (st.map fun v => v.category).sum ≤ 8) (hd : decode cc pc = .ok (.invokevirtual 130, 3)) (k : ∀ x M', Qf x M' → V p l e R s m args below meth c nL D cy ad G A cells slots Q (pc + 3) lv (.int x :: st) M') : V p l e R s m args below meth c nL D cy ad G A cells slots Q pc lv (v3 :: v2 :: v1 :: .ref (ad 30 i) :: st) M :=
  V_callV (n := 3) (As := [v1, v2, v3]) C hM hd2 (by decide) qc_X10_cell qm_L_130 qi_X10_cell ql_X10_cell qn_CostsAgeModel (by decide +kernel) hg wF_30 rfl rfl hw hd (fun r M' h => by obtain ⟨x, rfl, h⟩ := h; exact k x M' h)
theorem qm_L_131 : Cond.methodLink "CostsAgeLaw" 131 yX9_copy ∈ lw_good := tg (tb 739 (by decide +kernel)) rfl
theorem call_L_131 (C : CX p s m args c cc nL "CostsAgeLaw" D cy ad G A R d cells slots) {i : Nat} {v1 v2 v3 v4 v5 : Value} {Qf : Int32 → wS → Prop} (hM : Ctr l D cy ad G d2 yX9_copy cX9_copy 8 (some .int) [.ref (ad 0 i), v1, v2, v3, v4, v5] M (rI Qf)) (hd2 : d2 + 1 ≤ d) (hg : wG G 0 i) (hw : (st.map fun v => v.category).sum ≤ 8) (hd : decode cc pc = .ok (.invokevirtual 131, 3)) (k : ∀ x M', Qf x M' → V p l e R s m args below meth c nL D cy ad G A cells slots Q (pc + 3) lv (.int x :: st) M') : V p l e R s m args below meth c nL D cy ad G A cells slots Q pc lv (v5 :: v4 :: v3 :: v2 :: v1 :: .ref (ad 0 i) :: st) M :=
  V_callV (n := 5) (As := [v1, v2, v3, v4, v5]) C hM hd2 (by decide) qc_X9_copy qm_L_131 qi_X9_copy ql_X9_copy qn_CostsAge (by decide +kernel) hg wF_0 rfl rfl hw hd (fun r M' h => by obtain ⟨x, rfl, h⟩ := h; exact k x M' h)
theorem qm_L_135 : Cond.methodLink "CostsAgeLaw" 135 yX10_copy ∈ lw_good := tg (tb 1223 (by decide +kernel)) rfl
theorem call_L_135 (C : CX p s m args c cc nL "CostsAgeLaw" D cy ad G A R d cells slots) {i : Nat} {v1 v2 v3 v4 v5 : Value} {Qf : Int32 → wS → Prop} (hM : Ctr l D cy ad G d2 yX10_copy cX10_copy 9 (some .int) [.ref (ad 30 i), v1, v2, v3, v4, v5] M (rI Qf)) (hd2 : d2 + 1 ≤ d) (hg : wG G 30 i) (hw : (st.map fun v => v.category).sum ≤ 8) (hd : decode cc pc = .ok (.invokevirtual 135, 3)) (k : ∀ x M', Qf x M' → V p l e R s m args below meth c nL D cy ad G A cells slots Q (pc + 3) lv (.int x :: st) M') : V p l e R s m args below meth c nL D cy ad G A cells slots Q pc lv (v5 :: v4 :: v3 :: v2 :: v1 :: .ref (ad 30 i) :: st) M :=
  V_callV (n := 5) (As := [v1, v2, v3, v4, v5]) C hM hd2 (by decide) qc_X10_copy qm_L_135 qi_X10_copy ql_X10_copy qn_CostsAgeModel (by decide +kernel) hg wF_30 rfl rfl hw hd (fun r M' h => by obtain ⟨x, rfl, h⟩ := h; exact k x M' h)
theorem qm_L_136 : Cond.methodLink "CostsAgeLaw" 136 yX9_things ∈ lw_good := tg (tb 748 (by decide +kernel)) rfl
theorem call_L_136 (C : CX p s m args c cc nL "CostsAgeLaw" D cy ad G A R d cells slots) {i : Nat} {v1 v2 v3 v4 : Value} {Qf : Int32 → wS → Prop} (hM : Ctr l D cy ad G d2 yX9_things cX9_things 9 (some .int) [.ref (ad 0 i), v1, v2, v3, v4] M (rI Qf)) (hd2 : d2 + 1 ≤ d) (hg : wG G 0 i) (hw : (st.map fun v => v.category).sum ≤ 8) (hd : decode cc pc = .ok (.invokevirtual 136, 3)) (k : ∀ x M', Qf x M' → V p l e R s m args below meth c nL D cy ad G A cells slots Q (pc + 3) lv (.int x :: st) M') : V p l e R s m args below meth c nL D cy ad G A cells slots Q pc lv (v4 :: v3 :: v2 :: v1 :: .ref (ad 0 i) :: st) M :=
  V_callV (n := 4) (As := [v1, v2, v3, v4]) C hM hd2 (by decide) qc_X9_things qm_L_136 qi_X9_things ql_X9_things qn_CostsAge (by decide +kernel) hg wF_0 rfl rfl hw hd (fun r M' h => by obtain ⟨x, rfl, h⟩ := h; exact k x M' h)
theorem qm_L_140 : Cond.methodLink "CostsAgeLaw" 140 yX10_things ∈ lw_good := tg (tb 1227 (by decide +kernel)) rfl
theorem call_L_140 (C : CX p s m args c cc nL "CostsAgeLaw" D cy ad G A R d cells slots) {i : Nat} {v1 v2 v3 v4 : Value} {Qf : Int32 → wS → Prop} (hM : Ctr l D cy ad G d2 yX10_things cX10_things 8 (some .int) [.ref (ad 30 i), v1, v2, v3, v4] M (rI Qf)) (hd2 : d2 + 1 ≤ d) (hg : wG G 30 i) (hw : (st.map fun v => v.category).sum ≤ 8) (hd : decode cc pc = .ok (.invokevirtual 140, 3)) (k : ∀ x M', Qf x M' → V p l e R s m args below meth c nL D cy ad G A cells slots Q (pc + 3) lv (.int x :: st) M') : V p l e R s m args below meth c nL D cy ad G A cells slots Q pc lv (v4 :: v3 :: v2 :: v1 :: .ref (ad 30 i) :: st) M :=
  V_callV (n := 4) (As := [v1, v2, v3, v4]) C hM hd2 (by decide) qc_X10_things qm_L_140 qi_X10_things ql_X10_things qn_CostsAgeModel (by decide +kernel) hg wF_30 rfl rfl hw hd (fun r M' h => by obtain ⟨x, rfl, h⟩ := h; exact k x M' h)
theorem qm_L_141 : Cond.methodLink "CostsAgeLaw" 141 yX9_taken ∈ lw_good := tg (tb 753 (by decide +kernel)) rfl
theorem call_L_141 (C : CX p s m args c cc nL "CostsAgeLaw" D cy ad G A R d cells slots) {i : Nat} {v1 v2 : Value} {Qf : Int32 → wS → Prop} (hM : Ctr l D cy ad G d2 yX9_taken cX9_taken 3 (some .int) [.ref (ad 0 i), v1, v2] M (rI Qf)) (hd2 : d2 + 1 ≤ d) (hg : wG G 0 i) (hw : (st.map fun v => v.category).sum ≤ 8) (hd : decode cc pc = .ok (.invokevirtual 141, 3)) (k : ∀ x M', Qf x M' → V p l e R s m args below meth c nL D cy ad G A cells slots Q (pc + 3) lv (.int x :: st) M') : V p l e R s m args below meth c nL D cy ad G A cells slots Q pc lv (v2 :: v1 :: .ref (ad 0 i) :: st) M :=
  V_callV (n := 2) (As := [v1, v2]) C hM hd2 (by decide) qc_X9_taken qm_L_141 qi_X9_taken ql_X9_taken qn_CostsAge (by decide +kernel) hg wF_0 rfl rfl hw hd (fun r M' h => by obtain ⟨x, rfl, h⟩ := h; exact k x M' h)
theorem qm_L_144 : Cond.methodLink "CostsAgeLaw" 144 yX10_taken ∈ lw_good := tg (tb 1233 (by decide +kernel)) rfl
theorem call_L_144 (C : CX p s m args c cc nL "CostsAgeLaw" D cy ad G A R d cells slots) {i : Nat} {v1 v2 : Value} {Qf : Int32 → wS → Prop} (hM : Ctr l D cy ad G d2 yX10_taken cX10_taken 4 (some .int) [.ref (ad 30 i), v1, v2] M (rI Qf)) (hd2 : d2 + 1 ≤ d) (hg : wG G 30 i) (hw : (st.map fun v => v.category).sum ≤ 8) (hd : decode cc pc = .ok (.invokevirtual 144, 3)) (k : ∀ x M', Qf x M' → V p l e R s m args below meth c nL D cy ad G A cells slots Q (pc + 3) lv (.int x :: st) M') : V p l e R s m args below meth c nL D cy ad G A cells slots Q pc lv (v2 :: v1 :: .ref (ad 30 i) :: st) M :=
  V_callV (n := 2) (As := [v1, v2]) C hM hd2 (by decide) qc_X10_taken qm_L_144 qi_X10_taken ql_X10_taken qn_CostsAgeModel (by decide +kernel) hg wF_30 rfl rfl hw hd (fun r M' h => by obtain ⟨x, rfl, h⟩ := h; exact k x M' h)
theorem qm_X10_96 : Cond.methodLink "CostsAgeModel" 96 yX10_spell ∈ lw_good := tg (tb 769 (by decide +kernel)) rfl
theorem call_X10_96 (C : CX p s m args c cc nL "CostsAgeModel" D cy ad G A R d cells slots) {i : Nat} {v1 v2 v3 v4 v5 v6 v7 v8 v9 : Value} {Qf : wS → Prop} (hM : Ctr l D cy ad G d2 yX10_spell cX10_spell 10 none [.ref (ad 30 i), v1, v2, v3, v4, v5, v6, v7, v8, v9] M (rV Qf)) (hd2 : d2 + 1 ≤ d) (hg : wG G 30 i) (hw : (st.map fun v => v.category).sum ≤ 8) (hd : decode cc pc = .ok (.invokevirtual 96, 3)) (k : ∀ M', Qf M' → V p l e R s m args below meth c nL D cy ad G A cells slots Q (pc + 3) lv st M') : V p l e R s m args below meth c nL D cy ad G A cells slots Q pc lv (v9 :: v8 :: v7 :: v6 :: v5 :: v4 :: v3 :: v2 :: v1 :: .ref (ad 30 i) :: st) M :=
  V_callV (n := 9) (As := [v1, v2, v3, v4, v5, v6, v7, v8, v9]) C hM hd2 (by decide) qc_X10_spell qm_X10_96 qi_X10_spell ql_X10_spell qn_CostsAgeModel (by decide +kernel) hg wF_30 rfl rfl hw hd (fun r M' h => by obtain ⟨rfl, h⟩ := h; exact k M' h)
theorem qm_X10_106 : Cond.methodLink "CostsAgeModel" 106 yX10_in ∈ lw_good := tg (tb 962 (by decide +kernel)) rfl
theorem call_X10_106 (C : CX p s m args c cc nL "CostsAgeModel" D cy ad G A R d cells slots) {v1 v2 v3 : Value} {Qf : Int32 → wS → Prop} (hM : Ctr l D cy ad G d2 yX10_in cX10_in 6 (some .boolean) [v1, v2, v3] M (rI Qf)) (hd2 : d2 + 1 ≤ d) (hw : (st.map fun v => v.category).sum ≤ 8) (hd : decode cc pc = .ok (.invokestatic 106, 3)) (k : ∀ x M', Qf x M' → V p l e R s m args below meth c nL D cy ad G A cells slots Q (pc + 3) lv (.int x :: st) M') : V p l e R s m args below meth c nL D cy ad G A cells slots Q pc lv (v3 :: v2 :: v1 :: st) M :=
  V_callS (n := 3) (As := [v1, v2, v3]) C hM hd2 (by decide) qc_X10_in qm_X10_106 qs_X10_in qn_CostsAgeModel (by decide +kernel) rfl hw hd (fun r M' h => by obtain ⟨x, rfl, h⟩ := h; exact k x M' h)
theorem qm_X10_128 : Cond.methodLink "CostsAgeModel" 128 yX10_isThing ∈ lw_good := tg (tb 978 (by decide +kernel)) rfl
theorem call_X10_128 (C : CX p s m args c cc nL "CostsAgeModel" D cy ad G A R d cells slots) {i : Nat} {v1 : Value} {Qf : Int32 → wS → Prop} (hM : Ctr l D cy ad G d2 yX10_isThing cX10_isThing 2 (some .boolean) [.ref (ad 30 i), v1] M (rI Qf)) (hd2 : d2 + 1 ≤ d) (hg : wG G 30 i) (hw : (st.map fun v => v.category).sum ≤ 8) (hd : decode cc pc = .ok (.invokevirtual 128, 3)) (k : ∀ x M', Qf x M' → V p l e R s m args below meth c nL D cy ad G A cells slots Q (pc + 3) lv (.int x :: st) M') : V p l e R s m args below meth c nL D cy ad G A cells slots Q pc lv (v1 :: .ref (ad 30 i) :: st) M :=
  V_callV (n := 1) (As := [v1]) C hM hd2 (by decide) qc_X10_isThing qm_X10_128 qi_X10_isThing ql_X10_isThing qn_CostsAgeModel (by decide +kernel) hg wF_30 rfl rfl hw hd (fun r M' h => by obtain ⟨x, rfl, h⟩ := h; exact k x M' h)
theorem qm_X10_132 : Cond.methodLink "CostsAgeModel" 132 yX10_isBuyer ∈ lw_good := tg (tb 982 (by decide +kernel)) rfl
theorem call_X10_132 (C : CX p s m args c cc nL "CostsAgeModel" D cy ad G A R d cells slots) {i : Nat} {v1 : Value} {Qf : Int32 → wS → Prop} (hM : Ctr l D cy ad G d2 yX10_isBuyer cX10_isBuyer 2 (some .boolean) [.ref (ad 30 i), v1] M (rI Qf)) (hd2 : d2 + 1 ≤ d) (hg : wG G 30 i) (hw : (st.map fun v => v.category).sum ≤ 8) (hd : decode cc pc = .ok (.invokevirtual 132, 3)) (k : ∀ x M', Qf x M' → V p l e R s m args below meth c nL D cy ad G A cells slots Q (pc + 3) lv (.int x :: st) M') : V p l e R s m args below meth c nL D cy ad G A cells slots Q pc lv (v1 :: .ref (ad 30 i) :: st) M :=
  V_callV (n := 1) (As := [v1]) C hM hd2 (by decide) qc_X10_isBuyer qm_X10_132 qi_X10_isBuyer ql_X10_isBuyer qn_CostsAgeModel (by decide +kernel) hg wF_30 rfl rfl hw hd (fun r M' h => by obtain ⟨x, rfl, h⟩ := h; exact k x M' h)
theorem qm_X10_144 : Cond.methodLink "CostsAgeModel" 144 yX10_pence ∈ lw_good := tg (tb 993 (by decide +kernel)) rfl
theorem call_X10_144 (C : CX p s m args c cc nL "CostsAgeModel" D cy ad G A R d cells slots) {i : Nat} {v1 v2 v3 : Value} {Qf : Int32 → wS → Prop} (hM : Ctr l D cy ad G d2 yX10_pence cX10_pence 6 (some .int) [.ref (ad 30 i), v1, v2, v3] M (rI Qf)) (hd2 : d2 + 1 ≤ d) (hg : wG G 30 i) (hw : (st.map fun v => v.category).sum ≤ 8) (hd : decode cc pc = .ok (.invokevirtual 144, 3)) (k : ∀ x M', Qf x M' → V p l e R s m args below meth c nL D cy ad G A cells slots Q (pc + 3) lv (.int x :: st) M') : V p l e R s m args below meth c nL D cy ad G A cells slots Q pc lv (v3 :: v2 :: v1 :: .ref (ad 30 i) :: st) M :=
  V_callV (n := 3) (As := [v1, v2, v3]) C hM hd2 (by decide) qc_X10_pence qm_X10_144 qi_X10_pence ql_X10_pence qn_CostsAgeModel (by decide +kernel) hg wF_30 rfl rfl hw hd (fun r M' h => by obtain ⟨x, rfl, h⟩ := h; exact k x M' h)
theorem qm_X10_148 : Cond.methodLink "CostsAgeModel" 148 yX10_asks ∈ lw_good := tg (tb 997 (by decide +kernel)) rfl
theorem call_X10_148 (C : CX p s m args c cc nL "CostsAgeModel" D cy ad G A R d cells slots) {i : Nat} {v1 : Value} {Qf : Int32 → wS → Prop} (hM : Ctr l D cy ad G d2 yX10_asks cX10_asks 4 (some .int) [.ref (ad 30 i), v1] M (rI Qf)) (hd2 : d2 + 1 ≤ d) (hg : wG G 30 i) (hw : (st.map fun v => v.category).sum ≤ 8) (hd : decode cc pc = .ok (.invokevirtual 148, 3)) (k : ∀ x M', Qf x M' → V p l e R s m args below meth c nL D cy ad G A cells slots Q (pc + 3) lv (.int x :: st) M') : V p l e R s m args below meth c nL D cy ad G A cells slots Q pc lv (v1 :: .ref (ad 30 i) :: st) M :=
  V_callV (n := 1) (As := [v1]) C hM hd2 (by decide) qc_X10_asks qm_X10_148 qi_X10_asks ql_X10_asks qn_CostsAgeModel (by decide +kernel) hg wF_30 rfl rfl hw hd (fun r M' h => by obtain ⟨x, rfl, h⟩ := h; exact k x M' h)
theorem qm_X10_166 : Cond.methodLink "CostsAgeModel" 166 yX10_byteAt ∈ lw_good := tg (tb 1018 (by decide +kernel)) rfl
theorem call_X10_166 (C : CX p s m args c cc nL "CostsAgeModel" D cy ad G A R d cells slots) {i : Nat} {v1 : Value} {Qf : Int32 → wS → Prop} (hM : Ctr l D cy ad G d2 yX10_byteAt cX10_byteAt 2 (some .int) [.ref (ad 30 i), v1] M (rI Qf)) (hd2 : d2 + 1 ≤ d) (hg : wG G 30 i) (hw : (st.map fun v => v.category).sum ≤ 8) (hd : decode cc pc = .ok (.invokevirtual 166, 3)) (k : ∀ x M', Qf x M' → V p l e R s m args below meth c nL D cy ad G A cells slots Q (pc + 3) lv (.int x :: st) M') : V p l e R s m args below meth c nL D cy ad G A cells slots Q pc lv (v1 :: .ref (ad 30 i) :: st) M :=
  V_callV (n := 1) (As := [v1]) C hM hd2 (by decide) qc_X10_byteAt qm_X10_166 qi_X10_byteAt ql_X10_byteAt qn_CostsAgeModel (by decide +kernel) hg wF_30 rfl rfl hw hd (fun r M' h => by obtain ⟨x, rfl, h⟩ := h; exact k x M' h)
theorem qm_X10_194 : Cond.methodLink "CostsAgeModel" 194 yX10_isLetter ∈ lw_good := tg (tb 1030 (by decide +kernel)) rfl
theorem call_X10_194 (C : CX p s m args c cc nL "CostsAgeModel" D cy ad G A R d cells slots) {i : Nat} {v1 v2 : Value} {Qf : Int32 → wS → Prop} (hM : Ctr l D cy ad G d2 yX10_isLetter cX10_isLetter 3 (some .boolean) [.ref (ad 30 i), v1, v2] M (rI Qf)) (hd2 : d2 + 1 ≤ d) (hg : wG G 30 i) (hw : (st.map fun v => v.category).sum ≤ 8) (hd : decode cc pc = .ok (.invokevirtual 194, 3)) (k : ∀ x M', Qf x M' → V p l e R s m args below meth c nL D cy ad G A cells slots Q (pc + 3) lv (.int x :: st) M') : V p l e R s m args below meth c nL D cy ad G A cells slots Q pc lv (v2 :: v1 :: .ref (ad 30 i) :: st) M :=
  V_callV (n := 2) (As := [v1, v2]) C hM hd2 (by decide) qc_X10_isLetter qm_X10_194 qi_X10_isLetter ql_X10_isLetter qn_CostsAgeModel (by decide +kernel) hg wF_30 rfl rfl hw hd (fun r M' h => by obtain ⟨x, rfl, h⟩ := h; exact k x M' h)
theorem qm_X10_201 : Cond.methodLink "CostsAgeModel" 201 yX10_fail ∈ lw_good := tg (tb 1038 (by decide +kernel)) rfl
theorem call_X10_201 (C : CX p s m args c cc nL "CostsAgeModel" D cy ad G A R d cells slots) {i : Nat} {Qf : wS → Prop} (hM : Ctr l D cy ad G d2 yX10_fail cX10_fail 1 none [.ref (ad 30 i)] M (rV Qf)) (hd2 : d2 + 1 ≤ d) (hg : wG G 30 i) (hw : (st.map fun v => v.category).sum ≤ 8) (hd : decode cc pc = .ok (.invokevirtual 201, 3)) (k : ∀ M', Qf M' → V p l e R s m args below meth c nL D cy ad G A cells slots Q (pc + 3) lv st M') : V p l e R s m args below meth c nL D cy ad G A cells slots Q pc lv (.ref (ad 30 i) :: st) M :=
  V_callV (n := 0) (As := []) C hM hd2 (by decide) qc_X10_fail qm_X10_201 qi_X10_fail ql_X10_fail qn_CostsAgeModel (by decide +kernel) hg wF_30 rfl rfl hw hd (fun r M' h => by obtain ⟨rfl, h⟩ := h; exact k M' h)
theorem qm_X10_204 : Cond.methodLink "CostsAgeModel" 204 yX10_next ∈ lw_good := tg (tb 1014 (by decide +kernel)) rfl
theorem call_X10_204 (C : CX p s m args c cc nL "CostsAgeModel" D cy ad G A R d cells slots) {i : Nat} {Qf : wS → Prop} (hM : Ctr l D cy ad G d2 yX10_next cX10_next 3 none [.ref (ad 30 i)] M (rV Qf)) (hd2 : d2 + 1 ≤ d) (hg : wG G 30 i) (hw : (st.map fun v => v.category).sum ≤ 8) (hd : decode cc pc = .ok (.invokevirtual 204, 3)) (k : ∀ M', Qf M' → V p l e R s m args below meth c nL D cy ad G A cells slots Q (pc + 3) lv st M') : V p l e R s m args below meth c nL D cy ad G A cells slots Q pc lv (.ref (ad 30 i) :: st) M :=
  V_callV (n := 0) (As := []) C hM hd2 (by decide) qc_X10_next qm_X10_204 qi_X10_next ql_X10_next qn_CostsAgeModel (by decide +kernel) hg wF_30 rfl rfl hw hd (fun r M' h => by obtain ⟨rfl, h⟩ := h; exact k M' h)
theorem qm_X10_207 : Cond.methodLink "CostsAgeModel" 207 yX10_isWord ∈ lw_good := tg (tb 1026 (by decide +kernel)) rfl
theorem call_X10_207 (C : CX p s m args c cc nL "CostsAgeModel" D cy ad G A R d cells slots) {i : Nat} {v1 v2 v3 v4 v5 v6 v7 v8 : Value} {Qf : Int32 → wS → Prop} (hM : Ctr l D cy ad G d2 yX10_isWord cX10_isWord 9 (some .boolean) [.ref (ad 30 i), v1, v2, v3, v4, v5, v6, v7, v8] M (rI Qf)) (hd2 : d2 + 1 ≤ d) (hg : wG G 30 i) (hw : (st.map fun v => v.category).sum ≤ 8) (hd : decode cc pc = .ok (.invokevirtual 207, 3)) (k : ∀ x M', Qf x M' → V p l e R s m args below meth c nL D cy ad G A cells slots Q (pc + 3) lv (.int x :: st) M') : V p l e R s m args below meth c nL D cy ad G A cells slots Q pc lv (v8 :: v7 :: v6 :: v5 :: v4 :: v3 :: v2 :: v1 :: .ref (ad 30 i) :: st) M :=
  V_callV (n := 8) (As := [v1, v2, v3, v4, v5, v6, v7, v8]) C hM hd2 (by decide) qc_X10_isWord qm_X10_207 qi_X10_isWord ql_X10_isWord qn_CostsAgeModel (by decide +kernel) hg wF_30 rfl rfl hw hd (fun r M' h => by obtain ⟨x, rfl, h⟩ := h; exact k x M' h)
theorem qm_X10_229 : Cond.methodLink "CostsAgeModel" 229 yX10_isSign ∈ lw_good := tg (tb 1070 (by decide +kernel)) rfl
theorem call_X10_229 (C : CX p s m args c cc nL "CostsAgeModel" D cy ad G A R d cells slots) {i : Nat} {v1 : Value} {Qf : Int32 → wS → Prop} (hM : Ctr l D cy ad G d2 yX10_isSign cX10_isSign 2 (some .boolean) [.ref (ad 30 i), v1] M (rI Qf)) (hd2 : d2 + 1 ≤ d) (hg : wG G 30 i) (hw : (st.map fun v => v.category).sum ≤ 8) (hd : decode cc pc = .ok (.invokevirtual 229, 3)) (k : ∀ x M', Qf x M' → V p l e R s m args below meth c nL D cy ad G A cells slots Q (pc + 3) lv (.int x :: st) M') : V p l e R s m args below meth c nL D cy ad G A cells slots Q pc lv (v1 :: .ref (ad 30 i) :: st) M :=
  V_callV (n := 1) (As := [v1]) C hM hd2 (by decide) qc_X10_isSign qm_X10_229 qi_X10_isSign ql_X10_isSign qn_CostsAgeModel (by decide +kernel) hg wF_30 rfl rfl hw hd (fun r M' h => by obtain ⟨x, rfl, h⟩ := h; exact k x M' h)
theorem qm_X10_232 : Cond.methodLink "CostsAgeModel" 232 yX10_opens ∈ lw_good := tg (tb 1054 (by decide +kernel)) rfl
theorem call_X10_232 (C : CX p s m args c cc nL "CostsAgeModel" D cy ad G A R d cells slots) {i : Nat} {Qf : Int32 → wS → Prop} (hM : Ctr l D cy ad G d2 yX10_opens cX10_opens 1 (some .boolean) [.ref (ad 30 i)] M (rI Qf)) (hd2 : d2 + 1 ≤ d) (hg : wG G 30 i) (hw : (st.map fun v => v.category).sum ≤ 8) (hd : decode cc pc = .ok (.invokevirtual 232, 3)) (k : ∀ x M', Qf x M' → V p l e R s m args below meth c nL D cy ad G A cells slots Q (pc + 3) lv (.int x :: st) M') : V p l e R s m args below meth c nL D cy ad G A cells slots Q pc lv (.ref (ad 30 i) :: st) M :=
  V_callV (n := 0) (As := []) C hM hd2 (by decide) qc_X10_opens qm_X10_232 qi_X10_opens ql_X10_opens qn_CostsAgeModel (by decide +kernel) hg wF_30 rfl rfl hw hd (fun r M' h => by obtain ⟨x, rfl, h⟩ := h; exact k x M' h)
theorem qm_X10_236 : Cond.methodLink "CostsAgeModel" 236 yX10_atom ∈ lw_good := tg (tb 1066 (by decide +kernel)) rfl
theorem call_X10_236 (C : CX p s m args c cc nL "CostsAgeModel" D cy ad G A R d cells slots) {i : Nat} {Qf : Int32 → wS → Prop} (hM : Ctr l D cy ad G d2 yX10_atom cX10_atom 2 (some .int) [.ref (ad 30 i)] M (rI Qf)) (hd2 : d2 + 1 ≤ d) (hg : wG G 30 i) (hw : (st.map fun v => v.category).sum ≤ 8) (hd : decode cc pc = .ok (.invokevirtual 236, 3)) (k : ∀ x M', Qf x M' → V p l e R s m args below meth c nL D cy ad G A cells slots Q (pc + 3) lv (.int x :: st) M') : V p l e R s m args below meth c nL D cy ad G A cells slots Q pc lv (.ref (ad 30 i) :: st) M :=
  V_callV (n := 0) (As := []) C hM hd2 (by decide) qc_X10_atom qm_X10_236 qi_X10_atom ql_X10_atom qn_CostsAgeModel (by decide +kernel) hg wF_30 rfl rfl hw hd (fun r M' h => by obtain ⟨x, rfl, h⟩ := h; exact k x M' h)
theorem qm_X10_240 : Cond.methodLink "CostsAgeModel" 240 yX10_either ∈ lw_good := tg (tb 1042 (by decide +kernel)) rfl
theorem call_X10_240 (C : CX p s m args c cc nL "CostsAgeModel" D cy ad G A R d cells slots) {i : Nat} {Qf : Int32 → wS → Prop} (hM : Ctr l D cy ad G d2 yX10_either cX10_either 3 (some .int) [.ref (ad 30 i)] M (rI Qf)) (hd2 : d2 + 1 ≤ d) (hg : wG G 30 i) (hw : (st.map fun v => v.category).sum ≤ 8) (hd : decode cc pc = .ok (.invokevirtual 240, 3)) (k : ∀ x M', Qf x M' → V p l e R s m args below meth c nL D cy ad G A cells slots Q (pc + 3) lv (.int x :: st) M') : V p l e R s m args below meth c nL D cy ad G A cells slots Q pc lv (.ref (ad 30 i) :: st) M :=
  V_callV (n := 0) (As := []) C hM hd2 (by decide) qc_X10_either qm_X10_240 qi_X10_either ql_X10_either qn_CostsAgeModel (by decide +kernel) hg wF_30 rfl rfl hw hd (fun r M' h => by obtain ⟨x, rfl, h⟩ := h; exact k x M' h)
theorem qm_X10_243 : Cond.methodLink "CostsAgeModel" 243 yX10_name ∈ lw_good := tg (tb 1074 (by decide +kernel)) rfl
theorem call_X10_243 (C : CX p s m args c cc nL "CostsAgeModel" D cy ad G A R d cells slots) {i : Nat} {Qf : Int32 → wS → Prop} (hM : Ctr l D cy ad G d2 yX10_name cX10_name 1 (some .int) [.ref (ad 30 i)] M (rI Qf)) (hd2 : d2 + 1 ≤ d) (hg : wG G 30 i) (hw : (st.map fun v => v.category).sum ≤ 8) (hd : decode cc pc = .ok (.invokevirtual 243, 3)) (k : ∀ x M', Qf x M' → V p l e R s m args below meth c nL D cy ad G A cells slots Q (pc + 3) lv (.int x :: st) M') : V p l e R s m args below meth c nL D cy ad G A cells slots Q pc lv (.ref (ad 30 i) :: st) M :=
  V_callV (n := 0) (As := []) C hM hd2 (by decide) qc_X10_name qm_X10_243 qi_X10_name ql_X10_name qn_CostsAgeModel (by decide +kernel) hg wF_30 rfl rfl hw hd (fun r M' h => by obtain ⟨x, rfl, h⟩ := h; exact k x M' h)
theorem qm_X10_246 : Cond.methodLink "CostsAgeModel" 246 yX10_term ∈ lw_good := tg (tb 1062 (by decide +kernel)) rfl
theorem call_X10_246 (C : CX p s m args c cc nL "CostsAgeModel" D cy ad G A R d cells slots) {i : Nat} {Qf : Int32 → wS → Prop} (hM : Ctr l D cy ad G d2 yX10_term cX10_term 2 (some .int) [.ref (ad 30 i)] M (rI Qf)) (hd2 : d2 + 1 ≤ d) (hg : wG G 30 i) (hw : (st.map fun v => v.category).sum ≤ 8) (hd : decode cc pc = .ok (.invokevirtual 246, 3)) (k : ∀ x M', Qf x M' → V p l e R s m args below meth c nL D cy ad G A cells slots Q (pc + 3) lv (.int x :: st) M') : V p l e R s m args below meth c nL D cy ad G A cells slots Q pc lv (.ref (ad 30 i) :: st) M :=
  V_callV (n := 0) (As := []) C hM hd2 (by decide) qc_X10_term qm_X10_246 qi_X10_term ql_X10_term qn_CostsAgeModel (by decide +kernel) hg wF_30 rfl rfl hw hd (fun r M' h => by obtain ⟨x, rfl, h⟩ := h; exact k x M' h)
theorem qm_X10_251 : Cond.methodLink "CostsAgeModel" 251 yX10_not ∈ lw_good := tg (tb 1050 (by decide +kernel)) rfl
theorem call_X10_251 (C : CX p s m args c cc nL "CostsAgeModel" D cy ad G A R d cells slots) {i : Nat} {Qf : Int32 → wS → Prop} (hM : Ctr l D cy ad G d2 yX10_not cX10_not 4 (some .int) [.ref (ad 30 i)] M (rI Qf)) (hd2 : d2 + 1 ≤ d) (hg : wG G 30 i) (hw : (st.map fun v => v.category).sum ≤ 8) (hd : decode cc pc = .ok (.invokevirtual 251, 3)) (k : ∀ x M', Qf x M' → V p l e R s m args below meth c nL D cy ad G A cells slots Q (pc + 3) lv (.int x :: st) M') : V p l e R s m args below meth c nL D cy ad G A cells slots Q pc lv (.ref (ad 30 i) :: st) M :=
  V_callV (n := 0) (As := []) C hM hd2 (by decide) qc_X10_not qm_X10_251 qi_X10_not ql_X10_not qn_CostsAgeModel (by decide +kernel) hg wF_30 rfl rfl hw hd (fun r M' h => by obtain ⟨x, rfl, h⟩ := h; exact k x M' h)
theorem qm_X10_254 : Cond.methodLink "CostsAgeModel" 254 yX10_added ∈ lw_good := tg (tb 1058 (by decide +kernel)) rfl
theorem call_X10_254 (C : CX p s m args c cc nL "CostsAgeModel" D cy ad G A R d cells slots) {i : Nat} {Qf : Int32 → wS → Prop} (hM : Ctr l D cy ad G d2 yX10_added cX10_added 4 (some .int) [.ref (ad 30 i)] M (rI Qf)) (hd2 : d2 + 1 ≤ d) (hg : wG G 30 i) (hw : (st.map fun v => v.category).sum ≤ 8) (hd : decode cc pc = .ok (.invokevirtual 254, 3)) (k : ∀ x M', Qf x M' → V p l e R s m args below meth c nL D cy ad G A cells slots Q (pc + 3) lv (.int x :: st) M') : V p l e R s m args below meth c nL D cy ad G A cells slots Q pc lv (.ref (ad 30 i) :: st) M :=
  V_callV (n := 0) (As := []) C hM hd2 (by decide) qc_X10_added qm_X10_254 qi_X10_added ql_X10_added qn_CostsAgeModel (by decide +kernel) hg wF_30 rfl rfl hw hd (fun r M' h => by obtain ⟨x, rfl, h⟩ := h; exact k x M' h)
theorem qm_X10_259 : Cond.methodLink "CostsAgeModel" 259 yX10_both ∈ lw_good := tg (tb 1046 (by decide +kernel)) rfl
theorem call_X10_259 (C : CX p s m args c cc nL "CostsAgeModel" D cy ad G A R d cells slots) {i : Nat} {Qf : Int32 → wS → Prop} (hM : Ctr l D cy ad G d2 yX10_both cX10_both 3 (some .int) [.ref (ad 30 i)] M (rI Qf)) (hd2 : d2 + 1 ≤ d) (hg : wG G 30 i) (hw : (st.map fun v => v.category).sum ≤ 8) (hd : decode cc pc = .ok (.invokevirtual 259, 3)) (k : ∀ x M', Qf x M' → V p l e R s m args below meth c nL D cy ad G A cells slots Q (pc + 3) lv (.int x :: st) M') : V p l e R s m args below meth c nL D cy ad G A cells slots Q pc lv (.ref (ad 30 i) :: st) M :=
  V_callV (n := 0) (As := []) C hM hd2 (by decide) qc_X10_both qm_X10_259 qi_X10_both ql_X10_both qn_CostsAgeModel (by decide +kernel) hg wF_30 rfl rfl hw hd (fun r M' h => by obtain ⟨x, rfl, h⟩ := h; exact k x M' h)
theorem qm_X10_262 : Cond.methodLink "CostsAgeModel" 262 yX10_part ∈ lw_good := tg (tb 1034 (by decide +kernel)) rfl
theorem call_X10_262 (C : CX p s m args c cc nL "CostsAgeModel" D cy ad G A R d cells slots) {i : Nat} {v1 : Value} {Qf : Int32 → wS → Prop} (hM : Ctr l D cy ad G d2 yX10_part cX10_part 3 (some .int) [.ref (ad 30 i), v1] M (rI Qf)) (hd2 : d2 + 1 ≤ d) (hg : wG G 30 i) (hw : (st.map fun v => v.category).sum ≤ 8) (hd : decode cc pc = .ok (.invokevirtual 262, 3)) (k : ∀ x M', Qf x M' → V p l e R s m args below meth c nL D cy ad G A cells slots Q (pc + 3) lv (.int x :: st) M') : V p l e R s m args below meth c nL D cy ad G A cells slots Q pc lv (v1 :: .ref (ad 30 i) :: st) M :=
  V_callV (n := 1) (As := [v1]) C hM hd2 (by decide) qc_X10_part qm_X10_262 qi_X10_part ql_X10_part qn_CostsAgeModel (by decide +kernel) hg wF_30 rfl rfl hw hd (fun r M' h => by obtain ⟨x, rfl, h⟩ := h; exact k x M' h)
theorem qm_X10_266 : Cond.methodLink "CostsAgeModel" 266 yX10_read ∈ lw_good := tg (tb 1010 (by decide +kernel)) rfl
theorem call_X10_266 (C : CX p s m args c cc nL "CostsAgeModel" D cy ad G A R d cells slots) {i : Nat} {v1 v2 : Value} {Qf : Int32 → wS → Prop} (hM : Ctr l D cy ad G d2 yX10_read cX10_read 6 (some .int) [.ref (ad 30 i), v1, v2] M (rI Qf)) (hd2 : d2 + 1 ≤ d) (hg : wG G 30 i) (hw : (st.map fun v => v.category).sum ≤ 8) (hd : decode cc pc = .ok (.invokevirtual 266, 3)) (k : ∀ x M', Qf x M' → V p l e R s m args below meth c nL D cy ad G A cells slots Q (pc + 3) lv (.int x :: st) M') : V p l e R s m args below meth c nL D cy ad G A cells slots Q pc lv (v2 :: v1 :: .ref (ad 30 i) :: st) M :=
  V_callV (n := 2) (As := [v1, v2]) C hM hd2 (by decide) qc_X10_read qm_X10_266 qi_X10_read ql_X10_read qn_CostsAgeModel (by decide +kernel) hg wF_30 rfl rfl hw hd (fun r M' h => by obtain ⟨x, rfl, h⟩ := h; exact k x M' h)
theorem qm_X10_275 : Cond.methodLink "CostsAgeModel" 275 yX10_yearsIn ∈ lw_good := tg (tb 1089 (by decide +kernel)) rfl
theorem call_X10_275 (C : CX p s m args c cc nL "CostsAgeModel" D cy ad G A R d cells slots) {i : Nat} {v1 v2 : Value} {Qf : Int32 → wS → Prop} (hM : Ctr l D cy ad G d2 yX10_yearsIn cX10_yearsIn 5 (some .int) [.ref (ad 30 i), v1, v2] M (rI Qf)) (hd2 : d2 + 1 ≤ d) (hg : wG G 30 i) (hw : (st.map fun v => v.category).sum ≤ 8) (hd : decode cc pc = .ok (.invokevirtual 275, 3)) (k : ∀ x M', Qf x M' → V p l e R s m args below meth c nL D cy ad G A cells slots Q (pc + 3) lv (.int x :: st) M') : V p l e R s m args below meth c nL D cy ad G A cells slots Q pc lv (v2 :: v1 :: .ref (ad 30 i) :: st) M :=
  V_callV (n := 2) (As := [v1, v2]) C hM hd2 (by decide) qc_X10_yearsIn qm_X10_275 qi_X10_yearsIn ql_X10_yearsIn qn_CostsAgeModel (by decide +kernel) hg wF_30 rfl rfl hw hd (fun r M' h => by obtain ⟨x, rfl, h⟩ := h; exact k x M' h)
theorem qm_X10_278 : Cond.methodLink "CostsAgeModel" 278 yX10_about ∈ lw_good := tg (tb 1116 (by decide +kernel)) rfl
theorem call_X10_278 (C : CX p s m args c cc nL "CostsAgeModel" D cy ad G A R d cells slots) {i : Nat} {v1 v2 v3 : Value} {Qf : wS → Prop} (hM : Ctr l D cy ad G d2 yX10_about cX10_about 5 none [.ref (ad 30 i), v1, v2, v3] M (rV Qf)) (hd2 : d2 + 1 ≤ d) (hg : wG G 30 i) (hw : (st.map fun v => v.category).sum ≤ 8) (hd : decode cc pc = .ok (.invokevirtual 278, 3)) (k : ∀ M', Qf M' → V p l e R s m args below meth c nL D cy ad G A cells slots Q (pc + 3) lv st M') : V p l e R s m args below meth c nL D cy ad G A cells slots Q pc lv (v3 :: v2 :: v1 :: .ref (ad 30 i) :: st) M :=
  V_callV (n := 3) (As := [v1, v2, v3]) C hM hd2 (by decide) qc_X10_about qm_X10_278 qi_X10_about ql_X10_about qn_CostsAgeModel (by decide +kernel) hg wF_30 rfl rfl hw hd (fun r M' h => by obtain ⟨rfl, h⟩ := h; exact k M' h)
theorem qm_X10_282 : Cond.methodLink "CostsAgeModel" 282 yX10_within ∈ lw_good := tg (tb 1120 (by decide +kernel)) rfl
theorem call_X10_282 (C : CX p s m args c cc nL "CostsAgeModel" D cy ad G A R d cells slots) {v1 v2 v3 : Value} {Qf : Int32 → wS → Prop} (hM : Ctr l D cy ad G d2 yX10_within cX10_within 3 (some .int) [v1, v2, v3] M (rI Qf)) (hd2 : d2 + 1 ≤ d) (hw : (st.map fun v => v.category).sum ≤ 8) (hd : decode cc pc = .ok (.invokestatic 282, 3)) (k : ∀ x M', Qf x M' → V p l e R s m args below meth c nL D cy ad G A cells slots Q (pc + 3) lv (.int x :: st) M') : V p l e R s m args below meth c nL D cy ad G A cells slots Q pc lv (v3 :: v2 :: v1 :: st) M :=
  V_callS (n := 3) (As := [v1, v2, v3]) C hM hd2 (by decide) qc_X10_within qm_X10_282 qs_X10_within qn_CostsAgeModel (by decide +kernel) rfl hw hd (fun r M' h => by obtain ⟨x, rfl, h⟩ := h; exact k x M' h)
theorem qm_X10_285 : Cond.methodLink "CostsAgeModel" 285 yX10_taking ∈ lw_good := tg (tb 1112 (by decide +kernel)) rfl
theorem call_X10_285 (C : CX p s m args c cc nL "CostsAgeModel" D cy ad G A R d cells slots) {i : Nat} {v1 v2 v3 : Value} {Qf : Int32 → wS → Prop} (hM : Ctr l D cy ad G d2 yX10_taking cX10_taking 4 (some .int) [.ref (ad 30 i), v1, v2, v3] M (rI Qf)) (hd2 : d2 + 1 ≤ d) (hg : wG G 30 i) (hw : (st.map fun v => v.category).sum ≤ 8) (hd : decode cc pc = .ok (.invokevirtual 285, 3)) (k : ∀ x M', Qf x M' → V p l e R s m args below meth c nL D cy ad G A cells slots Q (pc + 3) lv (.int x :: st) M') : V p l e R s m args below meth c nL D cy ad G A cells slots Q pc lv (v3 :: v2 :: v1 :: .ref (ad 30 i) :: st) M :=
  V_callV (n := 3) (As := [v1, v2, v3]) C hM hd2 (by decide) qc_X10_taking qm_X10_285 qi_X10_taking ql_X10_taking qn_CostsAgeModel (by decide +kernel) hg wF_30 rfl rfl hw hd (fun r M' h => by obtain ⟨x, rfl, h⟩ := h; exact k x M' h)
theorem qm_X10_288 : Cond.methodLink "CostsAgeModel" 288 yX10_left ∈ lw_good := tg (tb 1101 (by decide +kernel)) rfl
theorem call_X10_288 (C : CX p s m args c cc nL "CostsAgeModel" D cy ad G A R d cells slots) {i : Nat} {Qf : Int32 → wS → Prop} (hM : Ctr l D cy ad G d2 yX10_left cX10_left 1 (some .int) [.ref (ad 30 i)] M (rI Qf)) (hd2 : d2 + 1 ≤ d) (hg : wG G 30 i) (hw : (st.map fun v => v.category).sum ≤ 8) (hd : decode cc pc = .ok (.invokevirtual 288, 3)) (k : ∀ x M', Qf x M' → V p l e R s m args below meth c nL D cy ad G A cells slots Q (pc + 3) lv (.int x :: st) M') : V p l e R s m args below meth c nL D cy ad G A cells slots Q pc lv (.ref (ad 30 i) :: st) M :=
  V_callV (n := 0) (As := []) C hM hd2 (by decide) qc_X10_left qm_X10_288 qi_X10_left ql_X10_left qn_CostsAgeModel (by decide +kernel) hg wF_30 rfl rfl hw hd (fun r M' h => by obtain ⟨x, rfl, h⟩ := h; exact k x M' h)
theorem qm_X10_291 : Cond.methodLink "CostsAgeModel" 291 yX10_bitsOf ∈ lw_good := tg (tb 1105 (by decide +kernel)) rfl
theorem call_X10_291 (C : CX p s m args c cc nL "CostsAgeModel" D cy ad G A R d cells slots) {v1 : Value} {Qf : Int32 → wS → Prop} (hM : Ctr l D cy ad G d2 yX10_bitsOf cX10_bitsOf 3 (some .int) [v1] M (rI Qf)) (hd2 : d2 + 1 ≤ d) (hw : (st.map fun v => v.category).sum ≤ 8) (hd : decode cc pc = .ok (.invokestatic 291, 3)) (k : ∀ x M', Qf x M' → V p l e R s m args below meth c nL D cy ad G A cells slots Q (pc + 3) lv (.int x :: st) M') : V p l e R s m args below meth c nL D cy ad G A cells slots Q pc lv (v1 :: st) M :=
  V_callS (n := 1) (As := [v1]) C hM hd2 (by decide) qc_X10_bitsOf qm_X10_291 qs_X10_bitsOf qn_CostsAgeModel (by decide +kernel) rfl hw hd (fun r M' h => by obtain ⟨x, rfl, h⟩ := h; exact k x M' h)
theorem qm_X10_294 : Cond.methodLink "CostsAgeModel" 294 yX10_mayBeTied ∈ lw_good := tg (tb 1097 (by decide +kernel)) rfl
theorem call_X10_294 (C : CX p s m args c cc nL "CostsAgeModel" D cy ad G A R d cells slots) {i : Nat} {v1 : Value} {Qf : Int32 → wS → Prop} (hM : Ctr l D cy ad G d2 yX10_mayBeTied cX10_mayBeTied 4 (some .boolean) [.ref (ad 30 i), v1] M (rI Qf)) (hd2 : d2 + 1 ≤ d) (hg : wG G 30 i) (hw : (st.map fun v => v.category).sum ≤ 8) (hd : decode cc pc = .ok (.invokevirtual 294, 3)) (k : ∀ x M', Qf x M' → V p l e R s m args below meth c nL D cy ad G A cells slots Q (pc + 3) lv (.int x :: st) M') : V p l e R s m args below meth c nL D cy ad G A cells slots Q pc lv (v1 :: .ref (ad 30 i) :: st) M :=
  V_callV (n := 1) (As := [v1]) C hM hd2 (by decide) qc_X10_mayBeTied qm_X10_294 qi_X10_mayBeTied ql_X10_mayBeTied qn_CostsAgeModel (by decide +kernel) hg wF_30 rfl rfl hw hd (fun r M' h => by obtain ⟨x, rfl, h⟩ := h; exact k x M' h)
theorem qm_X10_297 : Cond.methodLink "CostsAgeModel" 297 yX10_costOf ∈ lw_good := tg (tb 1108 (by decide +kernel)) rfl
theorem call_X10_297 (C : CX p s m args c cc nL "CostsAgeModel" D cy ad G A R d cells slots) {i : Nat} {v1 v2 v3 : Value} {Qf : Int32 → wS → Prop} (hM : Ctr l D cy ad G d2 yX10_costOf cX10_costOf 5 (some .int) [.ref (ad 30 i), v1, v2, v3] M (rI Qf)) (hd2 : d2 + 1 ≤ d) (hg : wG G 30 i) (hw : (st.map fun v => v.category).sum ≤ 8) (hd : decode cc pc = .ok (.invokevirtual 297, 3)) (k : ∀ x M', Qf x M' → V p l e R s m args below meth c nL D cy ad G A cells slots Q (pc + 3) lv (.int x :: st) M') : V p l e R s m args below meth c nL D cy ad G A cells slots Q pc lv (v3 :: v2 :: v1 :: .ref (ad 30 i) :: st) M :=
  V_callV (n := 3) (As := [v1, v2, v3]) C hM hd2 (by decide) qc_X10_costOf qm_X10_297 qi_X10_costOf ql_X10_costOf qn_CostsAgeModel (by decide +kernel) hg wF_30 rfl rfl hw hd (fun r M' h => by obtain ⟨x, rfl, h⟩ := h; exact k x M' h)
theorem qm_X10_303 : Cond.methodLink "CostsAgeModel" 303 yX10_bestOf ∈ lw_good := tg (tb 1127 (by decide +kernel)) rfl
theorem call_X10_303 (C : CX p s m args c cc nL "CostsAgeModel" D cy ad G A R d cells slots) {i : Nat} {v1 v2 : Value} {Qf : Int32 → wS → Prop} (hM : Ctr l D cy ad G d2 yX10_bestOf cX10_bestOf 6 (some .int) [.ref (ad 30 i), v1, v2] M (rI Qf)) (hd2 : d2 + 1 ≤ d) (hg : wG G 30 i) (hw : (st.map fun v => v.category).sum ≤ 8) (hd : decode cc pc = .ok (.invokevirtual 303, 3)) (k : ∀ x M', Qf x M' → V p l e R s m args below meth c nL D cy ad G A cells slots Q (pc + 3) lv (.int x :: st) M') : V p l e R s m args below meth c nL D cy ad G A cells slots Q pc lv (v2 :: v1 :: .ref (ad 30 i) :: st) M :=
  V_callV (n := 2) (As := [v1, v2]) C hM hd2 (by decide) qc_X10_bestOf qm_X10_303 qi_X10_bestOf ql_X10_bestOf qn_CostsAgeModel (by decide +kernel) hg wF_30 rfl rfl hw hd (fun r M' h => by obtain ⟨x, rfl, h⟩ := h; exact k x M' h)
theorem qm_X10_309 : Cond.methodLink "CostsAgeModel" 309 yX10_whenLeast ∈ lw_good := tg (tb 1135 (by decide +kernel)) rfl
theorem call_X10_309 (C : CX p s m args c cc nL "CostsAgeModel" D cy ad G A R d cells slots) {i : Nat} {v1 v2 : Value} {Qf : Int32 → wS → Prop} (hM : Ctr l D cy ad G d2 yX10_whenLeast cX10_whenLeast 5 (some .int) [.ref (ad 30 i), v1, v2] M (rI Qf)) (hd2 : d2 + 1 ≤ d) (hg : wG G 30 i) (hw : (st.map fun v => v.category).sum ≤ 8) (hd : decode cc pc = .ok (.invokevirtual 309, 3)) (k : ∀ x M', Qf x M' → V p l e R s m args below meth c nL D cy ad G A cells slots Q (pc + 3) lv (.int x :: st) M') : V p l e R s m args below meth c nL D cy ad G A cells slots Q pc lv (v2 :: v1 :: .ref (ad 30 i) :: st) M :=
  V_callV (n := 2) (As := [v1, v2]) C hM hd2 (by decide) qc_X10_whenLeast qm_X10_309 qi_X10_whenLeast ql_X10_whenLeast qn_CostsAgeModel (by decide +kernel) hg wF_30 rfl rfl hw hd (fun r M' h => by obtain ⟨x, rfl, h⟩ := h; exact k x M' h)
theorem qm_X10_318 : Cond.methodLink "CostsAgeModel" 318 yX10_plans ∈ lw_good := tg (tb 1151 (by decide +kernel)) rfl
theorem call_X10_318 (C : CX p s m args c cc nL "CostsAgeModel" D cy ad G A R d cells slots) {i : Nat} {Qf : wS → Prop} (hM : Ctr l D cy ad G d2 yX10_plans cX10_plans 7 none [.ref (ad 30 i)] M (rV Qf)) (hd2 : d2 + 1 ≤ d) (hg : wG G 30 i) (hw : (st.map fun v => v.category).sum ≤ 8) (hd : decode cc pc = .ok (.invokevirtual 318, 3)) (k : ∀ M', Qf M' → V p l e R s m args below meth c nL D cy ad G A cells slots Q (pc + 3) lv st M') : V p l e R s m args below meth c nL D cy ad G A cells slots Q pc lv (.ref (ad 30 i) :: st) M :=
  V_callV (n := 0) (As := []) C hM hd2 (by decide) qc_X10_plans qm_X10_318 qi_X10_plans ql_X10_plans qn_CostsAgeModel (by decide +kernel) hg wF_30 rfl rfl hw hd (fun r M' h => by obtain ⟨rfl, h⟩ := h; exact k M' h)
theorem qm_X10_323 : Cond.methodLink "CostsAgeModel" 323 yX10_earns ∈ lw_good := tg (tb 1176 (by decide +kernel)) rfl
theorem call_X10_323 (C : CX p s m args c cc nL "CostsAgeModel" D cy ad G A R d cells slots) {i : Nat} {v1 : Value} {Qf : Int32 → wS → Prop} (hM : Ctr l D cy ad G d2 yX10_earns cX10_earns 4 (some .int) [.ref (ad 30 i), v1] M (rI Qf)) (hd2 : d2 + 1 ≤ d) (hg : wG G 30 i) (hw : (st.map fun v => v.category).sum ≤ 8) (hd : decode cc pc = .ok (.invokevirtual 323, 3)) (k : ∀ x M', Qf x M' → V p l e R s m args below meth c nL D cy ad G A cells slots Q (pc + 3) lv (.int x :: st) M') : V p l e R s m args below meth c nL D cy ad G A cells slots Q pc lv (v1 :: .ref (ad 30 i) :: st) M :=
  V_callV (n := 1) (As := [v1]) C hM hd2 (by decide) qc_X10_earns qm_X10_323 qi_X10_earns ql_X10_earns qn_CostsAgeModel (by decide +kernel) hg wF_30 rfl rfl hw hd (fun r M' h => by obtain ⟨x, rfl, h⟩ := h; exact k x M' h)
theorem qm_X10_326 : Cond.methodLink "CostsAgeModel" 326 yX10_isSheet ∈ lw_good := tg (tb 1184 (by decide +kernel)) rfl
theorem call_X10_326 (C : CX p s m args c cc nL "CostsAgeModel" D cy ad G A R d cells slots) {v1 : Value} {Qf : Int32 → wS → Prop} (hM : Ctr l D cy ad G d2 yX10_isSheet cX10_isSheet 1 (some .boolean) [v1] M (rI Qf)) (hd2 : d2 + 1 ≤ d) (hw : (st.map fun v => v.category).sum ≤ 8) (hd : decode cc pc = .ok (.invokestatic 326, 3)) (k : ∀ x M', Qf x M' → V p l e R s m args below meth c nL D cy ad G A cells slots Q (pc + 3) lv (.int x :: st) M') : V p l e R s m args below meth c nL D cy ad G A cells slots Q pc lv (v1 :: st) M :=
  V_callS (n := 1) (As := [v1]) C hM hd2 (by decide) qc_X10_isSheet qm_X10_326 qs_X10_isSheet qn_CostsAgeModel (by decide +kernel) rfl hw hd (fun r M' h => by obtain ⟨x, rfl, h⟩ := h; exact k x M' h)
theorem qm_X10_359 : Cond.methodLink "CostsAgeModel" 359 yX10_thing ∈ lw_good := tg (tb 1232 (by decide +kernel)) rfl
theorem call_X10_359 (C : CX p s m args c cc nL "CostsAgeModel" D cy ad G A R d cells slots) {i : Nat} {v1 v2 : Value} {Qf : Int32 → wS → Prop} (hM : Ctr l D cy ad G d2 yX10_thing cX10_thing 3 (some .int) [.ref (ad 30 i), v1, v2] M (rI Qf)) (hd2 : d2 + 1 ≤ d) (hg : wG G 30 i) (hw : (st.map fun v => v.category).sum ≤ 8) (hd : decode cc pc = .ok (.invokevirtual 359, 3)) (k : ∀ x M', Qf x M' → V p l e R s m args below meth c nL D cy ad G A cells slots Q (pc + 3) lv (.int x :: st) M') : V p l e R s m args below meth c nL D cy ad G A cells slots Q pc lv (v2 :: v1 :: .ref (ad 30 i) :: st) M :=
  V_callV (n := 2) (As := [v1, v2]) C hM hd2 (by decide) qc_X10_thing qm_X10_359 qi_X10_thing ql_X10_thing qn_CostsAgeModel (by decide +kernel) hg wF_30 rfl rfl hw hd (fun r M' h => by obtain ⟨x, rfl, h⟩ := h; exact k x M' h)
theorem qm_X10_362 : Cond.methodLink "CostsAgeModel" 362 yX10_over ∈ lw_good := tg (tb 1237 (by decide +kernel)) rfl
theorem call_X10_362 (C : CX p s m args c cc nL "CostsAgeModel" D cy ad G A R d cells slots) {v1 : Value} {Qf : Int32 → wS → Prop} (hM : Ctr l D cy ad G d2 yX10_over cX10_over 1 (some .int) [v1] M (rI Qf)) (hd2 : d2 + 1 ≤ d) (hw : (st.map fun v => v.category).sum ≤ 8) (hd : decode cc pc = .ok (.invokestatic 362, 3)) (k : ∀ x M', Qf x M' → V p l e R s m args below meth c nL D cy ad G A cells slots Q (pc + 3) lv (.int x :: st) M') : V p l e R s m args below meth c nL D cy ad G A cells slots Q pc lv (v1 :: st) M :=
  V_callS (n := 1) (As := [v1]) C hM hd2 (by decide) qc_X10_over qm_X10_362 qs_X10_over qn_CostsAgeModel (by decide +kernel) rfl hw hd (fun r M' h => by obtain ⟨x, rfl, h⟩ := h; exact k x M' h)
theorem qm_J0_335 : Cond.methodLink "java/lang/String" 335 yJ0_coder_7d493 ∈ lw_good := tg (tb 256 (by decide +kernel)) rfl
theorem call_J0_335 (C : CX p s m args c cc nL "java/lang/String" D cy ad G A R d cells slots) {i : Nat} {Qf : Int32 → wS → Prop} (hM : Ctr l D cy ad G d2 yJ0_coder_7d493 cJ0_coder_7d493 1 (some .byte) [.ref (ad 61 i)] M (rI Qf)) (hd2 : d2 + 1 ≤ d) (hi : i < 13) (hw : (st.map fun v => v.category).sum ≤ 8) (hd : decode cc pc = .ok (.invokevirtual 335, 3)) (k : ∀ x M', Qf x M' → V p l e R s m args below meth c nL D cy ad G A cells slots Q (pc + 3) lv (.int x :: st) M') : V p l e R s m args below meth c nL D cy ad G A cells slots Q pc lv (.ref (ad 61 i) :: st) M :=
  V_callK (n := 0) (As := []) C hM hd2 (by decide) qc_J0_coder_7d493 qm_J0_335 qi_J0_coder_7d493 ql_J0_coder_7d493 qn_java_lang_String (by decide +kernel) rfl hi rfl hw hd (fun r M' h => by obtain ⟨x, rfl, h⟩ := h; exact k x M' h)
theorem qm_J0_492 : Cond.methodLink "java/lang/String" 492 yJ0_isLatin1_aae02 ∈ lw_good := tg (tb 266 (by decide +kernel)) rfl
theorem call_J0_492 (C : CX p s m args c cc nL "java/lang/String" D cy ad G A R d cells slots) {i : Nat} {Qf : Int32 → wS → Prop} (hM : Ctr l D cy ad G d2 yJ0_isLatin1_aae02 cJ0_isLatin1_aae02 1 (some .boolean) [.ref (ad 61 i)] M (rI Qf)) (hd2 : d2 + 1 ≤ d) (hi : i < 13) (hw : (st.map fun v => v.category).sum ≤ 8) (hd : decode cc pc = .ok (.invokevirtual 492, 3)) (k : ∀ x M', Qf x M' → V p l e R s m args below meth c nL D cy ad G A cells slots Q (pc + 3) lv (.int x :: st) M') : V p l e R s m args below meth c nL D cy ad G A cells slots Q pc lv (.ref (ad 61 i) :: st) M :=
  V_callK (n := 0) (As := []) C hM hd2 (by decide) qc_J0_isLatin1_aae02 qm_J0_492 qi_J0_isLatin1_aae02 ql_J0_isLatin1_aae02 qn_java_lang_String (by decide +kernel) rfl hi rfl hw hd (fun r M' h => by obtain ⟨x, rfl, h⟩ := h; exact k x M' h)
theorem qm_J0_495 : Cond.methodLink "java/lang/String" 495 yJ1_charAt_3b067 ∈ lw_good := tg (tb 270 (by decide +kernel)) rfl
theorem call_J0_495 (C : CX p s m args c cc nL "java/lang/String" D cy ad G A R d cells slots) {v1 v2 : Value} {Qf : Int32 → wS → Prop} (hM : Ctr l D cy ad G d2 yJ1_charAt_3b067 cJ1_charAt_3b067 2 (some .char) [v1, v2] M (rI Qf)) (hd2 : d2 + 1 ≤ d) (hw : (st.map fun v => v.category).sum ≤ 8) (hd : decode cc pc = .ok (.invokestatic 495, 3)) (k : ∀ x M', Qf x M' → V p l e R s m args below meth c nL D cy ad G A cells slots Q (pc + 3) lv (.int x :: st) M') : V p l e R s m args below meth c nL D cy ad G A cells slots Q pc lv (v2 :: v1 :: st) M :=
  V_callS (n := 2) (As := [v1, v2]) C hM hd2 (by decide) qc_J1_charAt_3b067 qm_J0_495 qs_J1_charAt_3b067 qn_java_lang_StringLatin1 (by decide +kernel) rfl hw hd (fun r M' h => by obtain ⟨x, rfl, h⟩ := h; exact k x M' h)
theorem qm_J0_498 : Cond.methodLink "java/lang/String" 498 yJ2_charAt_3b067 ∈ lw_good := tg (tb 281 (by decide +kernel)) rfl
theorem call_J0_498 (C : CX p s m args c cc nL "java/lang/String" D cy ad G A R d cells slots) {v1 v2 : Value} {Qf : Int32 → wS → Prop} (hM : Ctr l D cy ad G d2 yJ2_charAt_3b067 cJ2_charAt_3b067 2 (some .char) [v1, v2] M (rI Qf)) (hd2 : d2 + 1 ≤ d) (hw : (st.map fun v => v.category).sum ≤ 8) (hd : decode cc pc = .ok (.invokestatic 498, 3)) (k : ∀ x M', Qf x M' → V p l e R s m args below meth c nL D cy ad G A cells slots Q (pc + 3) lv (.int x :: st) M') : V p l e R s m args below meth c nL D cy ad G A cells slots Q pc lv (v2 :: v1 :: st) M :=
  V_callS (n := 2) (As := [v1, v2]) C hM hd2 (by decide) qc_J2_charAt_3b067 qm_J0_498 qs_J2_charAt_3b067 qn_java_lang_StringUTF16 (by decide +kernel) rfl hw hd (fun r M' h => by obtain ⟨x, rfl, h⟩ := h; exact k x M' h)
theorem qm_J0_1059 : Cond.methodLink "java/lang/String" 1059 yJ3_checkIndex_8e157 ∈ lw_good := tg (tb 278 (by decide +kernel)) rfl
theorem call_J0_1059 (C : CX p s m args c cc nL "java/lang/String" D cy ad G A R d cells slots) {v1 v2 v3 : Value} {Qf : Int32 → wS → Prop} (hM : Ctr l D cy ad G d2 yJ3_checkIndex_8e157 cJ3_checkIndex_8e157 3 (some .int) [v1, v2, v3] M (rI Qf)) (hd2 : d2 + 1 ≤ d) (hw : (st.map fun v => v.category).sum ≤ 8) (hd : decode cc pc = .ok (.invokestatic 1059, 3)) (k : ∀ x M', Qf x M' → V p l e R s m args below meth c nL D cy ad G A cells slots Q (pc + 3) lv (.int x :: st) M') : V p l e R s m args below meth c nL D cy ad G A cells slots Q pc lv (v3 :: v2 :: v1 :: st) M :=
  V_callS (n := 3) (As := [v1, v2, v3]) C hM hd2 (by decide) qc_J3_checkIndex_8e157 qm_J0_1059 qs_J3_checkIndex_8e157 qn_jdk_internal_util_Preconditions (by decide +kernel) rfl hw hd (fun r M' h => by obtain ⟨x, rfl, h⟩ := h; exact k x M' h)
theorem qm_J1_9 : Cond.methodLink "java/lang/StringLatin1" 9 yJ0_checkIndex_df160 ∈ lw_good := tg (tb 273 (by decide +kernel)) rfl
theorem call_J1_9 (C : CX p s m args c cc nL "java/lang/StringLatin1" D cy ad G A R d cells slots) {v1 v2 : Value} {Qf : wS → Prop} (hM : Ctr l D cy ad G d2 yJ0_checkIndex_df160 cJ0_checkIndex_df160 2 none [v1, v2] M (rV Qf)) (hd2 : d2 + 1 ≤ d) (hw : (st.map fun v => v.category).sum ≤ 8) (hd : decode cc pc = .ok (.invokestatic 9, 3)) (k : ∀ M', Qf M' → V p l e R s m args below meth c nL D cy ad G A cells slots Q (pc + 3) lv st M') : V p l e R s m args below meth c nL D cy ad G A cells slots Q pc lv (v2 :: v1 :: st) M :=
  V_callS (n := 2) (As := [v1, v2]) C hM hd2 (by decide) qc_J0_checkIndex_df160 qm_J1_9 qs_J0_checkIndex_df160 qn_java_lang_String (by decide +kernel) rfl hw hd (fun r M' h => by obtain ⟨rfl, h⟩ := h; exact k M' h)
theorem qm_J2_48 : Cond.methodLink "java/lang/StringUTF16" 48 yJ2_length_9d52b ∈ lw_good := tg (tb 287 (by decide +kernel)) rfl
theorem call_J2_48 (C : CX p s m args c cc nL "java/lang/StringUTF16" D cy ad G A R d cells slots) {v1 : Value} {Qf : Int32 → wS → Prop} (hM : Ctr l D cy ad G d2 yJ2_length_9d52b cJ2_length_9d52b 1 (some .int) [v1] M (rI Qf)) (hd2 : d2 + 1 ≤ d) (hw : (st.map fun v => v.category).sum ≤ 8) (hd : decode cc pc = .ok (.invokestatic 48, 3)) (k : ∀ x M', Qf x M' → V p l e R s m args below meth c nL D cy ad G A cells slots Q (pc + 3) lv (.int x :: st) M') : V p l e R s m args below meth c nL D cy ad G A cells slots Q pc lv (v1 :: st) M :=
  V_callS (n := 1) (As := [v1]) C hM hd2 (by decide) qc_J2_length_9d52b qm_J2_48 qs_J2_length_9d52b qn_java_lang_StringUTF16 (by decide +kernel) rfl hw hd (fun r M' h => by obtain ⟨x, rfl, h⟩ := h; exact k x M' h)
-- no link java/lang/StringUTF16 56
theorem qm_J2_67 : Cond.methodLink "java/lang/StringUTF16" 67 yJ2_checkIndex_2214a ∈ lw_good := tg (tb 284 (by decide +kernel)) rfl
theorem call_J2_67 (C : CX p s m args c cc nL "java/lang/StringUTF16" D cy ad G A R d cells slots) {v1 v2 : Value} {Qf : wS → Prop} (hM : Ctr l D cy ad G d2 yJ2_checkIndex_2214a cJ2_checkIndex_2214a 2 none [v1, v2] M (rV Qf)) (hd2 : d2 + 1 ≤ d) (hw : (st.map fun v => v.category).sum ≤ 8) (hd : decode cc pc = .ok (.invokestatic 67, 3)) (k : ∀ M', Qf M' → V p l e R s m args below meth c nL D cy ad G A cells slots Q (pc + 3) lv st M') : V p l e R s m args below meth c nL D cy ad G A cells slots Q pc lv (v2 :: v1 :: st) M :=
  V_callS (n := 2) (As := [v1, v2]) C hM hd2 (by decide) qc_J2_checkIndex_2214a qm_J2_67 qs_J2_checkIndex_2214a qn_java_lang_StringUTF16 (by decide +kernel) rfl hw hd (fun r M' h => by obtain ⟨rfl, h⟩ := h; exact k M' h)
theorem qm_J2_71 : Cond.methodLink "java/lang/StringUTF16" 71 yJ2_getChar_3b067 ∈ lw_good := tg (tb 291 (by decide +kernel)) rfl
theorem call_J2_71 (C : CX p s m args c cc nL "java/lang/StringUTF16" D cy ad G A R d cells slots) {v1 v2 : Value} {Qf : Int32 → wS → Prop} (hM : Ctr l D cy ad G d2 yJ2_getChar_3b067 cJ2_getChar_3b067 2 (some .char) [v1, v2] M (rI Qf)) (hd2 : d2 + 1 ≤ d) (hw : (st.map fun v => v.category).sum ≤ 8) (hd : decode cc pc = .ok (.invokestatic 71, 3)) (k : ∀ x M', Qf x M' → V p l e R s m args below meth c nL D cy ad G A cells slots Q (pc + 3) lv (.int x :: st) M') : V p l e R s m args below meth c nL D cy ad G A cells slots Q pc lv (v2 :: v1 :: st) M :=
  V_callS (n := 2) (As := [v1, v2]) C hM hd2 (by decide) qc_J2_getChar_3b067 qm_J2_71 qs_J2_getChar_3b067 qn_java_lang_StringUTF16 (by decide +kernel) rfl hw hd (fun r M' h => by obtain ⟨x, rfl, h⟩ := h; exact k x M' h)
theorem qm_J2_414 : Cond.methodLink "java/lang/StringUTF16" 414 yJ0_checkIndex_df160 ∈ lw_good := tg (tb 290 (by decide +kernel)) rfl
theorem call_J2_414 (C : CX p s m args c cc nL "java/lang/StringUTF16" D cy ad G A R d cells slots) {v1 v2 : Value} {Qf : wS → Prop} (hM : Ctr l D cy ad G d2 yJ0_checkIndex_df160 cJ0_checkIndex_df160 2 none [v1, v2] M (rV Qf)) (hd2 : d2 + 1 ≤ d) (hw : (st.map fun v => v.category).sum ≤ 8) (hd : decode cc pc = .ok (.invokestatic 414, 3)) (k : ∀ M', Qf M' → V p l e R s m args below meth c nL D cy ad G A cells slots Q (pc + 3) lv st M') : V p l e R s m args below meth c nL D cy ad G A cells slots Q pc lv (v2 :: v1 :: st) M :=
  V_callS (n := 2) (As := [v1, v2]) C hM hd2 (by decide) qc_J0_checkIndex_df160 qm_J2_414 qs_J0_checkIndex_df160 qn_java_lang_String (by decide +kernel) rfl hw hd (fun r M' h => by obtain ⟨rfl, h⟩ := h; exact k M' h)
-- no link jdk/internal/util/Preconditions 95
theorem q_acn : Cond.native arraycopyName ∈ lw_good := tg (tb 707 (by decide +kernel)) rfl
theorem q_acs : Cond.static arraycopyName ∈ lw_good := tg (tb 706 (by decide +kernel)) rfl
theorem q_maxs : Cond.static Lib.Math.max.name ∈ lw_good := tg (tb 482 (by decide +kernel)) rfl
theorem q_maxc : Cond.code Lib.Math.max.name Lib.Math.max.code 2 (some .int) ∈ lw_good := tg (tb 483 (by decide +kernel)) rfl
theorem q_mins : Cond.static Lib.Math.min.name ∈ lw_good := tg (tb 513 (by decide +kernel)) rfl
theorem q_minc : Cond.code Lib.Math.min.name Lib.Math.min.code 2 (some .int) ∈ lw_good := tg (tb 514 (by decide +kernel)) rfl
theorem qf_J0_9 : Cond.fieldLink "java/lang/String" 9 "java/lang/String" "value" "[B" ∈ lw_good := tg (tb 1240 (by decide +kernel)) rfl
theorem qf_J0_15 : Cond.fieldLink "java/lang/String" 15 "java/lang/String" "coder" "B" ∈ lw_good := tg (tb 1241 (by decide +kernel)) rfl
theorem qf_X0_18 : Cond.fieldLinkNest "CostsAge$Buyer" 18 "CostsAge" "UNDER" "[I" "CostsAge" ∈ lw_tbl := tb 761 (by decide +kernel)
theorem qf_J0_38 : Cond.fieldLink "java/lang/String" 38 "java/lang/String" "COMPACT_STRINGS" "Z" ∈ lw_good := tg (tb 260 (by decide +kernel)) rfl
theorem qf_J0_1053 : Cond.fieldLink "java/lang/String" 1053 "jdk/internal/util/Preconditions" "SIOOBE_FORMATTER" "Ljava/util/function/BiFunction;" ∈ lw_good := tg (tb 276 (by decide +kernel)) rfl
theorem qf_J2_44 : Cond.fieldLink "java/lang/StringUTF16" 44 "java/lang/StringUTF16" "$assertionsDisabled" "Z" ∈ lw_good := tg (tb 294 (by decide +kernel)) rfl
theorem qf_J2_59 : Cond.fieldLink "java/lang/StringUTF16" 59 "java/lang/StringUTF16" "HI_BYTE_SHIFT" "I" ∈ lw_good := tg (tb 296 (by decide +kernel)) rfl
theorem qf_J2_63 : Cond.fieldLink "java/lang/StringUTF16" 63 "java/lang/StringUTF16" "LO_BYTE_SHIFT" "I" ∈ lw_good := tg (tb 298 (by decide +kernel)) rfl
end LK
end
